/-! methods that only ask: facts (printed by program) -/
section ZB
variable {ro : Nat → Int32 → zS → Option (zO × zS)} {L : Nat} {X : zK} {s : zJ} {R : Nat → Nat → Option Nat} {G : Nat → Nat → Int64} {nc ns : Nat} {Q : zO → zS → Prop} {g : Nat → Int} {U F T B ph : Int}
set_option maxHeartbeats 4000000 in
theorem t_Mining_comesNear (S : zSR R) (V : zV g U F T B ph s) {i : Nat} {x : Int} {r : Int} (p0 : i < 6) (p1 : -2147483648 ≤ x ∧ x < 2147483648) (p2 : -2147483648 ≤ r ∧ r < 2147483648) (hQ0 : Q (.inl (some (.int (Int32.ofInt 1)))) (zN L X (zhi s) R G nc ns)) (hQ1 : Q (.inl (some (.int (Int32.ofInt 0)))) (zN L X (zhi s) R G nc ns)) : zW ro 110 0 (zfst [.ref 8, .ref (54 + 2 * i), .int (Int32.ofInt x), .int (Int32.ofInt r)] 5) [] (zN L X (zhi s) R G nc ns) Q := by
  show zW ro 110 0 [some (.ref 8), some (.ref (54 + 2 * i)), some (.int (Int32.ofInt x)), some (.int (Int32.ofInt r)), none] [] (zN L X (zhi s) R G nc ns) Q
  have f1 := zA_geo (zV_zA V)
  have hB0 := zV_B V
  refine zW.run 2 (pc' := 3) (ls' := [some (.ref 8), some (.ref (54 + 2 * i)), some (.int (Int32.ofInt x)), some (.int (Int32.ofInt r)), some (.int (Int32.ofInt 0))]) (st' := []) (σ' := (zN L X (zhi s) R G nc ns)) (fun n => rfl) ?_
  have J4 : ∀ m : Nat, ∀ (i_2 : Nat), i_2 ≤ 6 → 7 - i_2 < m → zW ro 110 3 [some (.ref 8), some (.ref (54 + 2 * i)), some (.int (Int32.ofInt x)), some (.int (Int32.ofInt r)), some (.int (Int32.ofInt (i_2 : Int)))] [] (zN L X (zhi s) R G nc ns) Q := by
    intro m
    induction m with
    | zero => intros; omega
    | succ m ih5 =>
      intro i_2 c3 hm6
      refine zW.run 2 (pc' := 6) (ls' := [some (.ref 8), some (.ref (54 + 2 * i)), some (.int (Int32.ofInt x)), some (.int (Int32.ofInt r)), some (.int (Int32.ofInt (i_2 : Int)))]) (st' := [.ref (54 + 2 * i), .int (Int32.ofInt (i_2 : Int))]) (σ' := (zN L X (zhi s) R G nc ns)) (fun n => rfl) ?_
      have f7 := zV_min V (i := i) (by omega)
      refine zW.jget (v := (s (54 + 2 * i) 2)) rfl (zk_min (by omega)) (fun _ _ _ => rfl) rfl ?_
      refine zW.jcmp_ge rfl (by omega) (fun c8 => ?_) (fun c8 => ?_)
      · skip
        refine zW.run 1 (pc' := 44) (ls' := [some (.ref 8), some (.ref (54 + 2 * i)), some (.int (Int32.ofInt x)), some (.int (Int32.ofInt r)), some (.int (Int32.ofInt (i_2 : Int)))]) (st' := [.int (Int32.ofInt 0)]) (σ' := (zN L X (zhi s) R G nc ns)) (fun n => rfl) ?_
        exact zW.jretb rfl rfl (by decide) hQ1
      · skip
        refine zW.run 2 (pc' := 16) (ls' := [some (.ref 8), some (.ref (54 + 2 * i)), some (.int (Int32.ofInt x)), some (.int (Int32.ofInt r)), some (.int (Int32.ofInt (i_2 : Int)))]) (st' := [.int (Int32.ofInt 6), .int (Int32.ofInt (i_2 : Int))]) (σ' := (zN L X (zhi s) R G nc ns)) (fun n => rfl) ?_
        refine zW.jcmp_ge rfl (by omega) (fun c9 => ?_) (fun c9 => ?_)
        · skip
          refine zW.run 1 (pc' := 44) (ls' := [some (.ref 8), some (.ref (54 + 2 * i)), some (.int (Int32.ofInt x)), some (.int (Int32.ofInt r)), some (.int (Int32.ofInt (i_2 : Int)))]) (st' := [.int (Int32.ofInt 0)]) (σ' := (zN L X (zhi s) R G nc ns)) (fun n => rfl) ?_
          exact zW.jretb rfl rfl (by decide) hQ1
        · skip
          refine zW.run 2 (pc' := 21) (ls' := [some (.ref 8), some (.ref (54 + 2 * i)), some (.int (Int32.ofInt x)), some (.int (Int32.ofInt r)), some (.int (Int32.ofInt (i_2 : Int)))]) (st' := [.ref (54 + 2 * i), .ref 8]) (σ' := (zN L X (zhi s) R G nc ns)) (fun n => rfl) ?_
          refine zW.getf (v := .ref (55 + 2 * i)) rfl (zk_min (by omega)) (zr_mrow S (by omega)) ?_
          refine zW.run 1 (pc' := 26) (ls' := [some (.ref 8), some (.ref (54 + 2 * i)), some (.int (Int32.ofInt x)), some (.int (Int32.ofInt r)), some (.int (Int32.ofInt (i_2 : Int)))]) (st' := [.int (Int32.ofInt (i_2 : Int)), .ref (55 + 2 * i), .ref 8]) (σ' := (zN L X (zhi s) R G nc ns)) (fun n => rfl) ?_
          refine zW.jald (n := 6) (v := (s (55 + 2 * i) i_2)) rfl (zk_mrow (by omega)) (by decide) (by omega) rfl ?_
          have f10 := zV_mrw V (i := i) (j := i_2) (by omega) (by omega)
          refine zW.run 1 (pc' := 28) (ls' := [some (.ref 8), some (.ref (54 + 2 * i)), some (.int (Int32.ofInt x)), some (.int (Int32.ofInt r)), some (.int (Int32.ofInt (i_2 : Int)))]) (st' := [.int (Int32.ofInt x), .int (Int32.ofInt (s (55 + 2 * i) i_2)), .ref 8]) (σ' := (zN L X (zhi s) R G nc ns)) (fun n => rfl) ?_
          refine zW.callV rfl (by decide) rfl rfl rfl rfl rfl (Nat.le_of_ble_eq_true rfl) ?_
          refine t_Ground_far S (zV_zA V) (a := (s (55 + 2 * i) i_2)) (b := x) (by omega) (by omega) (fun v_11 f12 => ?_)
          show zW ro 110 31 [some (.ref 8), some (.ref (54 + 2 * i)), some (.int (Int32.ofInt x)), some (.int (Int32.ofInt r)), some (.int (Int32.ofInt (i_2 : Int)))] [.int (Int32.ofInt v_11)] (zN L X (zhi s) R G nc ns) Q
          refine zW.run 1 (pc' := 32) (ls' := [some (.ref 8), some (.ref (54 + 2 * i)), some (.int (Int32.ofInt x)), some (.int (Int32.ofInt r)), some (.int (Int32.ofInt (i_2 : Int)))]) (st' := [.int (Int32.ofInt r), .int (Int32.ofInt v_11)]) (σ' := (zN L X (zhi s) R G nc ns)) (fun n => rfl) ?_
          refine zW.jcmp_gt rfl (by omega) (fun c13 => ?_) (fun c13 => ?_)
          · skip
            refine zW.jinc (ls' := [some (.ref 8), some (.ref (54 + 2 * i)), some (.int (Int32.ofInt x)), some (.int (Int32.ofInt r)), some (.int (Int32.ofInt ((i_2 : Int) + 1)))]) rfl (Nat.le_of_ble_eq_true rfl) rfl rfl ?_
            refine zW.run 1 (pc' := 3) (ls' := [some (.ref 8), some (.ref (54 + 2 * i)), some (.int (Int32.ofInt x)), some (.int (Int32.ofInt r)), some (.int (Int32.ofInt ((i_2 : Int) + 1)))]) (st' := []) (σ' := (zN L X (zhi s) R G nc ns)) (fun n => rfl) ?_
            exact ih5 (i_2 + 1) (by omega) (by omega)
          · skip
            refine zW.run 1 (pc' := 36) (ls' := [some (.ref 8), some (.ref (54 + 2 * i)), some (.int (Int32.ofInt x)), some (.int (Int32.ofInt r)), some (.int (Int32.ofInt (i_2 : Int)))]) (st' := [.int (Int32.ofInt 1)]) (σ' := (zN L X (zhi s) R G nc ns)) (fun n => rfl) ?_
            exact zW.jretb rfl rfl (by decide) hQ0
  exact J4 _ 0 (by omega) (Nat.lt_succ_self _)
set_option maxHeartbeats 4000000 in
theorem t_Mining_isHeard (S : zSR R) (V : zV g U F T B ph s) {i : Nat} (p0 : i < 6) (hQ0 : s (54 + 2 * i) 6 = 0 → 2 ≤ s (54 + 2 * i) 2 → Q (.inl (some (.int (Int32.ofInt 1)))) (zN L X (zhi s) R G nc ns)) (hQ1 : Q (.inl (some (.int (Int32.ofInt 0)))) (zN L X (zhi s) R G nc ns)) : zW ro 112 0 (zfst [.ref 7, .ref (54 + 2 * i)] 8) [] (zN L X (zhi s) R G nc ns) Q := by
  show zW ro 112 0 [some (.ref 7), some (.ref (54 + 2 * i)), none, none, none, none, none, none] [] (zN L X (zhi s) R G nc ns) Q
  have f1 := zA_geo (zV_zA V)
  have hB0 := zV_B V
  refine zW.run 1 (pc' := 1) (ls' := [some (.ref 7), some (.ref (54 + 2 * i)), none, none, none, none, none, none]) (st' := [.ref (54 + 2 * i)]) (σ' := (zN L X (zhi s) R G nc ns)) (fun n => rfl) ?_
  refine zW.callV rfl (by decide) rfl rfl rfl rfl (zk_min (by omega)) (Nat.le_of_ble_eq_true rfl) ?_
  refine t_Mine_isBegun S V (i := i) (by omega) (fun f2 => ?_) (fun f3 => ?_)
  · skip
    show zW ro 112 4 [some (.ref 7), some (.ref (54 + 2 * i)), none, none, none, none, none, none] [.int (Int32.ofInt 1)] (zN L X (zhi s) R G nc ns) Q
    refine zW.run 2 (pc' := 8) (ls' := [some (.ref 7), some (.ref (54 + 2 * i)), none, none, none, none, none, none]) (st' := [.ref (54 + 2 * i)]) (σ' := (zN L X (zhi s) R G nc ns)) (fun n => rfl) ?_
    have f4 := zV_min V (i := i) (by omega)
    refine zW.jget (v := (s (54 + 2 * i) 6)) rfl (zk_min (by omega)) (fun _ _ _ => rfl) rfl ?_
    refine zW.jif_ne rfl (by omega) (fun c5 => ?_) (fun c5 => ?_)
    · skip
      refine zW.run 1 (pc' := 23) (ls' := [some (.ref 7), some (.ref (54 + 2 * i)), none, none, none, none, none, none]) (st' := [.int (Int32.ofInt 0)]) (σ' := (zN L X (zhi s) R G nc ns)) (fun n => rfl) ?_
      exact zW.jretb rfl rfl (by decide) hQ1
    · skip
      refine zW.run 1 (pc' := 15) (ls' := [some (.ref 7), some (.ref (54 + 2 * i)), none, none, none, none, none, none]) (st' := [.ref (54 + 2 * i)]) (σ' := (zN L X (zhi s) R G nc ns)) (fun n => rfl) ?_
      refine zW.jget (v := (s (54 + 2 * i) 2)) rfl (zk_min (by omega)) (fun _ _ _ => rfl) rfl ?_
      refine zW.run 1 (pc' := 19) (ls' := [some (.ref 7), some (.ref (54 + 2 * i)), none, none, none, none, none, none]) (st' := [.int (Int32.ofInt 2), .int (Int32.ofInt (s (54 + 2 * i) 2))]) (σ' := (zN L X (zhi s) R G nc ns)) (fun n => rfl) ?_
      refine zW.jcmp_ge rfl (by omega) (fun c6 => ?_) (fun c6 => ?_)
      · skip
        refine zW.run 2 (pc' := 26) (ls' := [some (.ref 7), some (.ref (54 + 2 * i)), none, none, none, none, none, none]) (st' := [.ref (54 + 2 * i), .int (Int32.ofInt 1)]) (σ' := (zN L X (zhi s) R G nc ns)) (fun n => rfl) ?_
        refine zW.jget (v := (s (54 + 2 * i) 1)) rfl (zk_min (by omega)) (fun _ _ _ => rfl) rfl ?_
        refine zW.jsub rfl ?_
        refine zW.run 2 (pc' := 32) (ls' := [some (.ref 7), some (.ref (54 + 2 * i)), some (.int (Int32.ofInt (1 - (s (54 + 2 * i) 1)))), none, none, none, none, none]) (st' := [.ref (54 + 2 * i)]) (σ' := (zN L X (zhi s) R G nc ns)) (fun n => rfl) ?_
        refine zW.callV rfl (by decide) rfl rfl rfl rfl (zk_min (by omega)) (Nat.le_of_ble_eq_true rfl) ?_
        refine t_Mine_head S V (i := i) (by omega) (fun v_7 f8 => ?_)
        show zW ro 112 35 [some (.ref 7), some (.ref (54 + 2 * i)), some (.int (Int32.ofInt (1 - (s (54 + 2 * i) 1)))), none, none, none, none, none] [.int (Int32.ofInt v_7)] (zN L X (zhi s) R G nc ns) Q
        refine zW.run 2 (pc' := 37) (ls' := [some (.ref 7), some (.ref (54 + 2 * i)), some (.int (Int32.ofInt (1 - (s (54 + 2 * i) 1)))), some (.int (Int32.ofInt v_7)), none, none, none, none]) (st' := [.ref 7]) (σ' := (zN L X (zhi s) R G nc ns)) (fun n => rfl) ?_
        refine zW.getf (v := .ref 19) rfl rfl (zr_7_2 S) ?_
        refine zW.run 2 (pc' := 44) (ls' := [some (.ref 7), some (.ref (54 + 2 * i)), some (.int (Int32.ofInt (1 - (s (54 + 2 * i) 1)))), some (.int (Int32.ofInt v_7)), some (.ref 19), none, none, none]) (st' := [.ref 19]) (σ' := (zN L X (zhi s) R G nc ns)) (fun n => rfl) ?_
        refine zW.alen rfl rfl (by decide) ?_
        show zW ro 112 45 [some (.ref 7), some (.ref (54 + 2 * i)), some (.int (Int32.ofInt (1 - (s (54 + 2 * i) 1)))), some (.int (Int32.ofInt v_7)), some (.ref 19), none, none, none] [.int (Int32.ofInt 12)] (zN L X (zhi s) R G nc ns) Q
        refine zW.run 3 (pc' := 50) (ls' := [some (.ref 7), some (.ref (54 + 2 * i)), some (.int (Int32.ofInt (1 - (s (54 + 2 * i) 1)))), some (.int (Int32.ofInt v_7)), some (.ref 19), some (.int (Int32.ofInt 12)), some (.int (Int32.ofInt 0)), none]) (st' := []) (σ' := (zN L X (zhi s) R G nc ns)) (fun n => rfl) ?_
        have J12 : ∀ m : Nat, ∀ (i_9 : Nat) (w10 : Option Value), i_9 ≤ 12 → 13 - i_9 < m → zW ro 112 50 [some (.ref 7), some (.ref (54 + 2 * i)), some (.int (Int32.ofInt (1 - (s (54 + 2 * i) 1)))), some (.int (Int32.ofInt v_7)), some (.ref 19), some (.int (Int32.ofInt 12)), some (.int (Int32.ofInt (i_9 : Int))), w10] [] (zN L X (zhi s) R G nc ns) Q := by
          intro m
          induction m with
          | zero => intros; omega
          | succ m ih13 =>
            intro i_9 w10 c11 hm14
            refine zW.run 2 (pc' := 54) (ls' := [some (.ref 7), some (.ref (54 + 2 * i)), some (.int (Int32.ofInt (1 - (s (54 + 2 * i) 1)))), some (.int (Int32.ofInt v_7)), some (.ref 19), some (.int (Int32.ofInt 12)), some (.int (Int32.ofInt (i_9 : Int))), w10]) (st' := [.int (Int32.ofInt 12), .int (Int32.ofInt (i_9 : Int))]) (σ' := (zN L X (zhi s) R G nc ns)) (fun n => rfl) ?_
            refine zW.jcmp_ge rfl (by omega) (fun c15 => ?_) (fun c15 => ?_)
            · skip
              refine zW.run 1 (pc' := 124) (ls' := [some (.ref 7), some (.ref (54 + 2 * i)), some (.int (Int32.ofInt (1 - (s (54 + 2 * i) 1)))), some (.int (Int32.ofInt v_7)), some (.ref 19), some (.int (Int32.ofInt 12)), some (.int (Int32.ofInt (i_9 : Int))), w10]) (st' := [.ref 7]) (σ' := (zN L X (zhi s) R G nc ns)) (fun n => rfl) ?_
              refine zW.getf (v := .ref 20) rfl rfl (zr_7_3 S) ?_
              refine zW.run 2 (pc' := 131) (ls' := [some (.ref 7), some (.ref (54 + 2 * i)), some (.int (Int32.ofInt (1 - (s (54 + 2 * i) 1)))), some (.int (Int32.ofInt v_7)), some (.ref 20), some (.int (Int32.ofInt 12)), some (.int (Int32.ofInt (i_9 : Int))), w10]) (st' := [.ref 20]) (σ' := (zN L X (zhi s) R G nc ns)) (fun n => rfl) ?_
              refine zW.alen rfl rfl (by decide) ?_
              show zW ro 112 132 [some (.ref 7), some (.ref (54 + 2 * i)), some (.int (Int32.ofInt (1 - (s (54 + 2 * i) 1)))), some (.int (Int32.ofInt v_7)), some (.ref 20), some (.int (Int32.ofInt 12)), some (.int (Int32.ofInt (i_9 : Int))), w10] [.int (Int32.ofInt 6)] (zN L X (zhi s) R G nc ns) Q
              refine zW.run 3 (pc' := 137) (ls' := [some (.ref 7), some (.ref (54 + 2 * i)), some (.int (Int32.ofInt (1 - (s (54 + 2 * i) 1)))), some (.int (Int32.ofInt v_7)), some (.ref 20), some (.int (Int32.ofInt 6)), some (.int (Int32.ofInt 0)), w10]) (st' := []) (σ' := (zN L X (zhi s) R G nc ns)) (fun n => rfl) ?_
              have J19 : ∀ m : Nat, ∀ (i_16 : Nat) (w17 : Option Value), i_16 ≤ 6 → 7 - i_16 < m → zW ro 112 137 [some (.ref 7), some (.ref (54 + 2 * i)), some (.int (Int32.ofInt (1 - (s (54 + 2 * i) 1)))), some (.int (Int32.ofInt v_7)), some (.ref 20), some (.int (Int32.ofInt 6)), some (.int (Int32.ofInt (i_16 : Int))), w17] [] (zN L X (zhi s) R G nc ns) Q := by
                intro m
                induction m with
                | zero => intros; omega
                | succ m ih20 =>
                  intro i_16 w17 c18 hm21
                  refine zW.run 2 (pc' := 141) (ls' := [some (.ref 7), some (.ref (54 + 2 * i)), some (.int (Int32.ofInt (1 - (s (54 + 2 * i) 1)))), some (.int (Int32.ofInt v_7)), some (.ref 20), some (.int (Int32.ofInt 6)), some (.int (Int32.ofInt (i_16 : Int))), w17]) (st' := [.int (Int32.ofInt 6), .int (Int32.ofInt (i_16 : Int))]) (σ' := (zN L X (zhi s) R G nc ns)) (fun n => rfl) ?_
                  refine zW.jcmp_ge rfl (by omega) (fun c22 => ?_) (fun c22 => ?_)
                  · skip
                    refine zW.run 1 (pc' := 194) (ls' := [some (.ref 7), some (.ref (54 + 2 * i)), some (.int (Int32.ofInt (1 - (s (54 + 2 * i) 1)))), some (.int (Int32.ofInt v_7)), some (.ref 20), some (.int (Int32.ofInt 6)), some (.int (Int32.ofInt (i_16 : Int))), w17]) (st' := [.int (Int32.ofInt 0)]) (σ' := (zN L X (zhi s) R G nc ns)) (fun n => rfl) ?_
                    exact zW.jretb rfl rfl (by decide) hQ1
                  · skip
                    refine zW.run 2 (pc' := 148) (ls' := [some (.ref 7), some (.ref (54 + 2 * i)), some (.int (Int32.ofInt (1 - (s (54 + 2 * i) 1)))), some (.int (Int32.ofInt v_7)), some (.ref 20), some (.int (Int32.ofInt 6)), some (.int (Int32.ofInt (i_16 : Int))), w17]) (st' := [.int (Int32.ofInt (i_16 : Int)), .ref 20]) (σ' := (zN L X (zhi s) R G nc ns)) (fun n => rfl) ?_
                    refine zW.jaald (n := 6) (v := .ref (54 + 2 * i_16)) rfl rfl (by decide) (by decide) (by omega) (zr_min S (by omega)) ?_
                    refine zW.run 2 (pc' := 153) (ls' := [some (.ref 7), some (.ref (54 + 2 * i)), some (.int (Int32.ofInt (1 - (s (54 + 2 * i) 1)))), some (.int (Int32.ofInt v_7)), some (.ref 20), some (.int (Int32.ofInt 6)), some (.int (Int32.ofInt (i_16 : Int))), some (.ref (54 + 2 * i_16))]) (st' := [.ref (54 + 2 * i_16)]) (σ' := (zN L X (zhi s) R G nc ns)) (fun n => rfl) ?_
                    have f23 := zV_min V (i := i_16) (by omega)
                    refine zW.jget (v := (s (54 + 2 * i_16) 1)) rfl (zk_min (by omega)) (fun _ _ _ => rfl) rfl ?_
                    refine zW.run 1 (pc' := 157) (ls' := [some (.ref 7), some (.ref (54 + 2 * i)), some (.int (Int32.ofInt (1 - (s (54 + 2 * i) 1)))), some (.int (Int32.ofInt v_7)), some (.ref 20), some (.int (Int32.ofInt 6)), some (.int (Int32.ofInt (i_16 : Int))), some (.ref (54 + 2 * i_16))]) (st' := [.int (Int32.ofInt (1 - (s (54 + 2 * i) 1))), .int (Int32.ofInt (s (54 + 2 * i_16) 1))]) (σ' := (zN L X (zhi s) R G nc ns)) (fun n => rfl) ?_
                    refine zW.jcmp_ne rfl (by omega) (fun c24 => ?_) (fun c24 => ?_)
                    · skip
                      refine zW.jinc (ls' := [some (.ref 7), some (.ref (54 + 2 * i)), some (.int (Int32.ofInt (1 - (s (54 + 2 * i) 1)))), some (.int (Int32.ofInt v_7)), some (.ref 20), some (.int (Int32.ofInt 6)), some (.int (Int32.ofInt ((i_16 : Int) + 1))), some (.ref (54 + 2 * i_16))]) rfl (Nat.le_of_ble_eq_true rfl) rfl rfl ?_
                      refine zW.run 1 (pc' := 137) (ls' := [some (.ref 7), some (.ref (54 + 2 * i)), some (.int (Int32.ofInt (1 - (s (54 + 2 * i) 1)))), some (.int (Int32.ofInt v_7)), some (.ref 20), some (.int (Int32.ofInt 6)), some (.int (Int32.ofInt ((i_16 : Int) + 1))), some (.ref (54 + 2 * i_16))]) (st' := []) (σ' := (zN L X (zhi s) R G nc ns)) (fun n => rfl) ?_
                      exact ih20 (i_16 + 1) (some (.ref (54 + 2 * i_16))) (by omega) (by omega)
                    · skip
                      refine zW.run 1 (pc' := 162) (ls' := [some (.ref 7), some (.ref (54 + 2 * i)), some (.int (Int32.ofInt (1 - (s (54 + 2 * i) 1)))), some (.int (Int32.ofInt v_7)), some (.ref 20), some (.int (Int32.ofInt 6)), some (.int (Int32.ofInt (i_16 : Int))), some (.ref (54 + 2 * i_16))]) (st' := [.ref (54 + 2 * i_16)]) (σ' := (zN L X (zhi s) R G nc ns)) (fun n => rfl) ?_
                      refine zW.callV rfl (by decide) rfl rfl rfl rfl (zk_min (by omega)) (Nat.le_of_ble_eq_true rfl) ?_
                      refine t_Mine_isWhole S V (i := i_16) (by omega) (fun f25 f26 => ?_) (fun f27 => ?_)
                      · skip
                        show zW ro 112 165 [some (.ref 7), some (.ref (54 + 2 * i)), some (.int (Int32.ofInt (1 - (s (54 + 2 * i) 1)))), some (.int (Int32.ofInt v_7)), some (.ref 20), some (.int (Int32.ofInt 6)), some (.int (Int32.ofInt (i_16 : Int))), some (.ref (54 + 2 * i_16))] [.int (Int32.ofInt 1)] (zN L X (zhi s) R G nc ns) Q
                        refine zW.run 2 (pc' := 169) (ls' := [some (.ref 7), some (.ref (54 + 2 * i)), some (.int (Int32.ofInt (1 - (s (54 + 2 * i) 1)))), some (.int (Int32.ofInt v_7)), some (.ref 20), some (.int (Int32.ofInt 6)), some (.int (Int32.ofInt (i_16 : Int))), some (.ref (54 + 2 * i_16))]) (st' := [.ref 7]) (σ' := (zN L X (zhi s) R G nc ns)) (fun n => rfl) ?_
                        refine zW.getf (v := .ref 8) rfl rfl (zr_7_0 S) ?_
                        refine zW.run 1 (pc' := 174) (ls' := [some (.ref 7), some (.ref (54 + 2 * i)), some (.int (Int32.ofInt (1 - (s (54 + 2 * i) 1)))), some (.int (Int32.ofInt v_7)), some (.ref 20), some (.int (Int32.ofInt 6)), some (.int (Int32.ofInt (i_16 : Int))), some (.ref (54 + 2 * i_16))]) (st' := [.ref (54 + 2 * i_16), .ref 8]) (σ' := (zN L X (zhi s) R G nc ns)) (fun n => rfl) ?_
                        refine zW.callV rfl (by decide) rfl rfl rfl rfl (zk_min (by omega)) (Nat.le_of_ble_eq_true rfl) ?_
                        refine t_Mine_head S V (i := i_16) (by omega) (fun v_28 f29 => ?_)
                        show zW ro 112 177 [some (.ref 7), some (.ref (54 + 2 * i)), some (.int (Int32.ofInt (1 - (s (54 + 2 * i) 1)))), some (.int (Int32.ofInt v_7)), some (.ref 20), some (.int (Int32.ofInt 6)), some (.int (Int32.ofInt (i_16 : Int))), some (.ref (54 + 2 * i_16))] [.int (Int32.ofInt v_28), .ref 8] (zN L X (zhi s) R G nc ns) Q
                        refine zW.run 1 (pc' := 178) (ls' := [some (.ref 7), some (.ref (54 + 2 * i)), some (.int (Int32.ofInt (1 - (s (54 + 2 * i) 1)))), some (.int (Int32.ofInt v_7)), some (.ref 20), some (.int (Int32.ofInt 6)), some (.int (Int32.ofInt (i_16 : Int))), some (.ref (54 + 2 * i_16))]) (st' := [.int (Int32.ofInt v_7), .int (Int32.ofInt v_28), .ref 8]) (σ' := (zN L X (zhi s) R G nc ns)) (fun n => rfl) ?_
                        refine zW.callV rfl (by decide) rfl rfl rfl rfl rfl (Nat.le_of_ble_eq_true rfl) ?_
                        refine t_Ground_far S (zV_zA V) (a := v_28) (b := v_7) (by omega) (by omega) (fun v_30 f31 => ?_)
                        show zW ro 112 181 [some (.ref 7), some (.ref (54 + 2 * i)), some (.int (Int32.ofInt (1 - (s (54 + 2 * i) 1)))), some (.int (Int32.ofInt v_7)), some (.ref 20), some (.int (Int32.ofInt 6)), some (.int (Int32.ofInt (i_16 : Int))), some (.ref (54 + 2 * i_16))] [.int (Int32.ofInt v_30)] (zN L X (zhi s) R G nc ns) Q
                        refine zW.run 1 (pc' := 182) (ls' := [some (.ref 7), some (.ref (54 + 2 * i)), some (.int (Int32.ofInt (1 - (s (54 + 2 * i) 1)))), some (.int (Int32.ofInt v_7)), some (.ref 20), some (.int (Int32.ofInt 6)), some (.int (Int32.ofInt (i_16 : Int))), some (.ref (54 + 2 * i_16))]) (st' := [.int (Int32.ofInt 2), .int (Int32.ofInt v_30)]) (σ' := (zN L X (zhi s) R G nc ns)) (fun n => rfl) ?_
                        refine zW.jcmp_gt rfl (by omega) (fun c32 => ?_) (fun c32 => ?_)
                        · skip
                          refine zW.jinc (ls' := [some (.ref 7), some (.ref (54 + 2 * i)), some (.int (Int32.ofInt (1 - (s (54 + 2 * i) 1)))), some (.int (Int32.ofInt v_7)), some (.ref 20), some (.int (Int32.ofInt 6)), some (.int (Int32.ofInt ((i_16 : Int) + 1))), some (.ref (54 + 2 * i_16))]) rfl (Nat.le_of_ble_eq_true rfl) rfl rfl ?_
                          refine zW.run 1 (pc' := 137) (ls' := [some (.ref 7), some (.ref (54 + 2 * i)), some (.int (Int32.ofInt (1 - (s (54 + 2 * i) 1)))), some (.int (Int32.ofInt v_7)), some (.ref 20), some (.int (Int32.ofInt 6)), some (.int (Int32.ofInt ((i_16 : Int) + 1))), some (.ref (54 + 2 * i_16))]) (st' := []) (σ' := (zN L X (zhi s) R G nc ns)) (fun n => rfl) ?_
                          exact ih20 (i_16 + 1) (some (.ref (54 + 2 * i_16))) (by omega) (by omega)
                        · skip
                          refine zW.run 1 (pc' := 186) (ls' := [some (.ref 7), some (.ref (54 + 2 * i)), some (.int (Int32.ofInt (1 - (s (54 + 2 * i) 1)))), some (.int (Int32.ofInt v_7)), some (.ref 20), some (.int (Int32.ofInt 6)), some (.int (Int32.ofInt (i_16 : Int))), some (.ref (54 + 2 * i_16))]) (st' := [.int (Int32.ofInt 1)]) (σ' := (zN L X (zhi s) R G nc ns)) (fun n => rfl) ?_
                          exact zW.jretb rfl rfl (by decide) (hQ0 (by omega) (by omega))
                      · skip
                        show zW ro 112 165 [some (.ref 7), some (.ref (54 + 2 * i)), some (.int (Int32.ofInt (1 - (s (54 + 2 * i) 1)))), some (.int (Int32.ofInt v_7)), some (.ref 20), some (.int (Int32.ofInt 6)), some (.int (Int32.ofInt (i_16 : Int))), some (.ref (54 + 2 * i_16))] [.int (Int32.ofInt 0)] (zN L X (zhi s) R G nc ns) Q
                        refine zW.run 1 (pc' := 187) (ls' := [some (.ref 7), some (.ref (54 + 2 * i)), some (.int (Int32.ofInt (1 - (s (54 + 2 * i) 1)))), some (.int (Int32.ofInt v_7)), some (.ref 20), some (.int (Int32.ofInt 6)), some (.int (Int32.ofInt (i_16 : Int))), some (.ref (54 + 2 * i_16))]) (st' := []) (σ' := (zN L X (zhi s) R G nc ns)) (fun n => rfl) ?_
                        refine zW.jinc (ls' := [some (.ref 7), some (.ref (54 + 2 * i)), some (.int (Int32.ofInt (1 - (s (54 + 2 * i) 1)))), some (.int (Int32.ofInt v_7)), some (.ref 20), some (.int (Int32.ofInt 6)), some (.int (Int32.ofInt ((i_16 : Int) + 1))), some (.ref (54 + 2 * i_16))]) rfl (Nat.le_of_ble_eq_true rfl) rfl rfl ?_
                        refine zW.run 1 (pc' := 137) (ls' := [some (.ref 7), some (.ref (54 + 2 * i)), some (.int (Int32.ofInt (1 - (s (54 + 2 * i) 1)))), some (.int (Int32.ofInt v_7)), some (.ref 20), some (.int (Int32.ofInt 6)), some (.int (Int32.ofInt ((i_16 : Int) + 1))), some (.ref (54 + 2 * i_16))]) (st' := []) (σ' := (zN L X (zhi s) R G nc ns)) (fun n => rfl) ?_
                        exact ih20 (i_16 + 1) (some (.ref (54 + 2 * i_16))) (by omega) (by omega)
              exact J19 _ 0 w10 (by omega) (Nat.lt_succ_self _)
            · skip
              refine zW.run 2 (pc' := 61) (ls' := [some (.ref 7), some (.ref (54 + 2 * i)), some (.int (Int32.ofInt (1 - (s (54 + 2 * i) 1)))), some (.int (Int32.ofInt v_7)), some (.ref 19), some (.int (Int32.ofInt 12)), some (.int (Int32.ofInt (i_9 : Int))), w10]) (st' := [.int (Int32.ofInt (i_9 : Int)), .ref 19]) (σ' := (zN L X (zhi s) R G nc ns)) (fun n => rfl) ?_
              refine zW.jaald (n := 12) (v := .ref (42 + i_9)) rfl rfl (by decide) (by decide) (by omega) (zr_com S (by omega)) ?_
              refine zW.run 2 (pc' := 66) (ls' := [some (.ref 7), some (.ref (54 + 2 * i)), some (.int (Int32.ofInt (1 - (s (54 + 2 * i) 1)))), some (.int (Int32.ofInt v_7)), some (.ref 19), some (.int (Int32.ofInt 12)), some (.int (Int32.ofInt (i_9 : Int))), some (.ref (42 + i_9))]) (st' := [.ref (42 + i_9)]) (σ' := (zN L X (zhi s) R G nc ns)) (fun n => rfl) ?_
              have f33 := zV_com V (i := i_9) (by omega)
              refine zW.jget (v := (s (42 + i_9) 2)) rfl (zk_com (by omega)) (fun _ _ _ => rfl) rfl ?_
              refine zW.jif_le rfl (by omega) (fun c34 => ?_) (fun c34 => ?_)
              · skip
                refine zW.jinc (ls' := [some (.ref 7), some (.ref (54 + 2 * i)), some (.int (Int32.ofInt (1 - (s (54 + 2 * i) 1)))), some (.int (Int32.ofInt v_7)), some (.ref 19), some (.int (Int32.ofInt 12)), some (.int (Int32.ofInt ((i_9 : Int) + 1))), some (.ref (42 + i_9))]) rfl (Nat.le_of_ble_eq_true rfl) rfl rfl ?_
                refine zW.run 1 (pc' := 50) (ls' := [some (.ref 7), some (.ref (54 + 2 * i)), some (.int (Int32.ofInt (1 - (s (54 + 2 * i) 1)))), some (.int (Int32.ofInt v_7)), some (.ref 19), some (.int (Int32.ofInt 12)), some (.int (Int32.ofInt ((i_9 : Int) + 1))), some (.ref (42 + i_9))]) (st' := []) (σ' := (zN L X (zhi s) R G nc ns)) (fun n => rfl) ?_
                exact ih13 (i_9 + 1) (some (.ref (42 + i_9))) (by omega) (by omega)
              · skip
                refine zW.run 1 (pc' := 74) (ls' := [some (.ref 7), some (.ref (54 + 2 * i)), some (.int (Int32.ofInt (1 - (s (54 + 2 * i) 1)))), some (.int (Int32.ofInt v_7)), some (.ref 19), some (.int (Int32.ofInt 12)), some (.int (Int32.ofInt (i_9 : Int))), some (.ref (42 + i_9))]) (st' := [.ref (42 + i_9)]) (σ' := (zN L X (zhi s) R G nc ns)) (fun n => rfl) ?_
                refine zW.jget (v := (s (42 + i_9) 0)) rfl (zk_com (by omega)) (fun _ _ _ => rfl) rfl ?_
                refine zW.run 1 (pc' := 78) (ls' := [some (.ref 7), some (.ref (54 + 2 * i)), some (.int (Int32.ofInt (1 - (s (54 + 2 * i) 1)))), some (.int (Int32.ofInt v_7)), some (.ref 19), some (.int (Int32.ofInt 12)), some (.int (Int32.ofInt (i_9 : Int))), some (.ref (42 + i_9))]) (st' := [.int (Int32.ofInt (1 - (s (54 + 2 * i) 1))), .int (Int32.ofInt (s (42 + i_9) 0))]) (σ' := (zN L X (zhi s) R G nc ns)) (fun n => rfl) ?_
                refine zW.jcmp_ne rfl (by omega) (fun c35 => ?_) (fun c35 => ?_)
                · skip
                  refine zW.jinc (ls' := [some (.ref 7), some (.ref (54 + 2 * i)), some (.int (Int32.ofInt (1 - (s (54 + 2 * i) 1)))), some (.int (Int32.ofInt v_7)), some (.ref 19), some (.int (Int32.ofInt 12)), some (.int (Int32.ofInt ((i_9 : Int) + 1))), some (.ref (42 + i_9))]) rfl (Nat.le_of_ble_eq_true rfl) rfl rfl ?_
                  refine zW.run 1 (pc' := 50) (ls' := [some (.ref 7), some (.ref (54 + 2 * i)), some (.int (Int32.ofInt (1 - (s (54 + 2 * i) 1)))), some (.int (Int32.ofInt v_7)), some (.ref 19), some (.int (Int32.ofInt 12)), some (.int (Int32.ofInt ((i_9 : Int) + 1))), some (.ref (42 + i_9))]) (st' := []) (σ' := (zN L X (zhi s) R G nc ns)) (fun n => rfl) ?_
                  exact ih13 (i_9 + 1) (some (.ref (42 + i_9))) (by omega) (by omega)
                · skip
                  refine zW.run 1 (pc' := 83) (ls' := [some (.ref 7), some (.ref (54 + 2 * i)), some (.int (Int32.ofInt (1 - (s (54 + 2 * i) 1)))), some (.int (Int32.ofInt v_7)), some (.ref 19), some (.int (Int32.ofInt 12)), some (.int (Int32.ofInt (i_9 : Int))), some (.ref (42 + i_9))]) (st' := [.ref (42 + i_9)]) (σ' := (zN L X (zhi s) R G nc ns)) (fun n => rfl) ?_
                  refine zW.jget (v := (s (42 + i_9) 4)) rfl (zk_com (by omega)) (fun _ _ _ => rfl) rfl ?_
                  refine zW.jif_eq rfl (by omega) (fun c36 => ?_) (fun c36 => ?_)
                  · skip
                    refine zW.jinc (ls' := [some (.ref 7), some (.ref (54 + 2 * i)), some (.int (Int32.ofInt (1 - (s (54 + 2 * i) 1)))), some (.int (Int32.ofInt v_7)), some (.ref 19), some (.int (Int32.ofInt 12)), some (.int (Int32.ofInt ((i_9 : Int) + 1))), some (.ref (42 + i_9))]) rfl (Nat.le_of_ble_eq_true rfl) rfl rfl ?_
                    refine zW.run 1 (pc' := 50) (ls' := [some (.ref 7), some (.ref (54 + 2 * i)), some (.int (Int32.ofInt (1 - (s (54 + 2 * i) 1)))), some (.int (Int32.ofInt v_7)), some (.ref 19), some (.int (Int32.ofInt 12)), some (.int (Int32.ofInt ((i_9 : Int) + 1))), some (.ref (42 + i_9))]) (st' := []) (σ' := (zN L X (zhi s) R G nc ns)) (fun n => rfl) ?_
                    exact ih13 (i_9 + 1) (some (.ref (42 + i_9))) (by omega) (by omega)
                  · skip
                    refine zW.run 1 (pc' := 91) (ls' := [some (.ref 7), some (.ref (54 + 2 * i)), some (.int (Int32.ofInt (1 - (s (54 + 2 * i) 1)))), some (.int (Int32.ofInt v_7)), some (.ref 19), some (.int (Int32.ofInt 12)), some (.int (Int32.ofInt (i_9 : Int))), some (.ref (42 + i_9))]) (st' := [.ref (42 + i_9)]) (σ' := (zN L X (zhi s) R G nc ns)) (fun n => rfl) ?_
                    refine zW.jget (v := (s (42 + i_9) 4)) rfl (zk_com (by omega)) (fun _ _ _ => rfl) rfl ?_
                    refine zW.run 1 (pc' := 95) (ls' := [some (.ref 7), some (.ref (54 + 2 * i)), some (.int (Int32.ofInt (1 - (s (54 + 2 * i) 1)))), some (.int (Int32.ofInt v_7)), some (.ref 19), some (.int (Int32.ofInt 12)), some (.int (Int32.ofInt (i_9 : Int))), some (.ref (42 + i_9))]) (st' := [.int (Int32.ofInt 4), .int (Int32.ofInt (s (42 + i_9) 4))]) (σ' := (zN L X (zhi s) R G nc ns)) (fun n => rfl) ?_
                    refine zW.jcmp_eq rfl (by omega) (fun c37 => ?_) (fun c37 => ?_)
                    · skip
                      refine zW.jinc (ls' := [some (.ref 7), some (.ref (54 + 2 * i)), some (.int (Int32.ofInt (1 - (s (54 + 2 * i) 1)))), some (.int (Int32.ofInt v_7)), some (.ref 19), some (.int (Int32.ofInt 12)), some (.int (Int32.ofInt ((i_9 : Int) + 1))), some (.ref (42 + i_9))]) rfl (Nat.le_of_ble_eq_true rfl) rfl rfl ?_
                      refine zW.run 1 (pc' := 50) (ls' := [some (.ref 7), some (.ref (54 + 2 * i)), some (.int (Int32.ofInt (1 - (s (54 + 2 * i) 1)))), some (.int (Int32.ofInt v_7)), some (.ref 19), some (.int (Int32.ofInt 12)), some (.int (Int32.ofInt ((i_9 : Int) + 1))), some (.ref (42 + i_9))]) (st' := []) (σ' := (zN L X (zhi s) R G nc ns)) (fun n => rfl) ?_
                      exact ih13 (i_9 + 1) (some (.ref (42 + i_9))) (by omega) (by omega)
                    · skip
                      refine zW.run 1 (pc' := 99) (ls' := [some (.ref 7), some (.ref (54 + 2 * i)), some (.int (Int32.ofInt (1 - (s (54 + 2 * i) 1)))), some (.int (Int32.ofInt v_7)), some (.ref 19), some (.int (Int32.ofInt 12)), some (.int (Int32.ofInt (i_9 : Int))), some (.ref (42 + i_9))]) (st' := [.ref 7]) (σ' := (zN L X (zhi s) R G nc ns)) (fun n => rfl) ?_
                      refine zW.getf (v := .ref 8) rfl rfl (zr_7_0 S) ?_
                      refine zW.run 1 (pc' := 104) (ls' := [some (.ref 7), some (.ref (54 + 2 * i)), some (.int (Int32.ofInt (1 - (s (54 + 2 * i) 1)))), some (.int (Int32.ofInt v_7)), some (.ref 19), some (.int (Int32.ofInt 12)), some (.int (Int32.ofInt (i_9 : Int))), some (.ref (42 + i_9))]) (st' := [.ref (42 + i_9), .ref 8]) (σ' := (zN L X (zhi s) R G nc ns)) (fun n => rfl) ?_
                      refine zW.jget (v := (s (42 + i_9) 1)) rfl (zk_com (by omega)) (fun _ _ _ => rfl) rfl ?_
                      refine zW.run 1 (pc' := 108) (ls' := [some (.ref 7), some (.ref (54 + 2 * i)), some (.int (Int32.ofInt (1 - (s (54 + 2 * i) 1)))), some (.int (Int32.ofInt v_7)), some (.ref 19), some (.int (Int32.ofInt 12)), some (.int (Int32.ofInt (i_9 : Int))), some (.ref (42 + i_9))]) (st' := [.int (Int32.ofInt v_7), .int (Int32.ofInt (s (42 + i_9) 1)), .ref 8]) (σ' := (zN L X (zhi s) R G nc ns)) (fun n => rfl) ?_
                      refine zW.callV rfl (by decide) rfl rfl rfl rfl rfl (Nat.le_of_ble_eq_true rfl) ?_
                      refine t_Ground_far S (zV_zA V) (a := (s (42 + i_9) 1)) (b := v_7) (by omega) (by omega) (fun v_38 f39 => ?_)
                      show zW ro 112 111 [some (.ref 7), some (.ref (54 + 2 * i)), some (.int (Int32.ofInt (1 - (s (54 + 2 * i) 1)))), some (.int (Int32.ofInt v_7)), some (.ref 19), some (.int (Int32.ofInt 12)), some (.int (Int32.ofInt (i_9 : Int))), some (.ref (42 + i_9))] [.int (Int32.ofInt v_38)] (zN L X (zhi s) R G nc ns) Q
                      refine zW.run 1 (pc' := 112) (ls' := [some (.ref 7), some (.ref (54 + 2 * i)), some (.int (Int32.ofInt (1 - (s (54 + 2 * i) 1)))), some (.int (Int32.ofInt v_7)), some (.ref 19), some (.int (Int32.ofInt 12)), some (.int (Int32.ofInt (i_9 : Int))), some (.ref (42 + i_9))]) (st' := [.int (Int32.ofInt 2), .int (Int32.ofInt v_38)]) (σ' := (zN L X (zhi s) R G nc ns)) (fun n => rfl) ?_
                      refine zW.jcmp_gt rfl (by omega) (fun c40 => ?_) (fun c40 => ?_)
                      · skip
                        refine zW.jinc (ls' := [some (.ref 7), some (.ref (54 + 2 * i)), some (.int (Int32.ofInt (1 - (s (54 + 2 * i) 1)))), some (.int (Int32.ofInt v_7)), some (.ref 19), some (.int (Int32.ofInt 12)), some (.int (Int32.ofInt ((i_9 : Int) + 1))), some (.ref (42 + i_9))]) rfl (Nat.le_of_ble_eq_true rfl) rfl rfl ?_
                        refine zW.run 1 (pc' := 50) (ls' := [some (.ref 7), some (.ref (54 + 2 * i)), some (.int (Int32.ofInt (1 - (s (54 + 2 * i) 1)))), some (.int (Int32.ofInt v_7)), some (.ref 19), some (.int (Int32.ofInt 12)), some (.int (Int32.ofInt ((i_9 : Int) + 1))), some (.ref (42 + i_9))]) (st' := []) (σ' := (zN L X (zhi s) R G nc ns)) (fun n => rfl) ?_
                        exact ih13 (i_9 + 1) (some (.ref (42 + i_9))) (by omega) (by omega)
                      · skip
                        refine zW.run 1 (pc' := 116) (ls' := [some (.ref 7), some (.ref (54 + 2 * i)), some (.int (Int32.ofInt (1 - (s (54 + 2 * i) 1)))), some (.int (Int32.ofInt v_7)), some (.ref 19), some (.int (Int32.ofInt 12)), some (.int (Int32.ofInt (i_9 : Int))), some (.ref (42 + i_9))]) (st' := [.int (Int32.ofInt 1)]) (σ' := (zN L X (zhi s) R G nc ns)) (fun n => rfl) ?_
                        exact zW.jretb rfl rfl (by decide) (hQ0 (by omega) (by omega))
        exact J12 _ 0 none (by omega) (Nat.lt_succ_self _)
      · skip
        refine zW.run 1 (pc' := 23) (ls' := [some (.ref 7), some (.ref (54 + 2 * i)), none, none, none, none, none, none]) (st' := [.int (Int32.ofInt 0)]) (σ' := (zN L X (zhi s) R G nc ns)) (fun n => rfl) ?_
        exact zW.jretb rfl rfl (by decide) hQ1
  · skip
    show zW ro 112 4 [some (.ref 7), some (.ref (54 + 2 * i)), none, none, none, none, none, none] [.int (Int32.ofInt 0)] (zN L X (zhi s) R G nc ns) Q
    refine zW.run 2 (pc' := 23) (ls' := [some (.ref 7), some (.ref (54 + 2 * i)), none, none, none, none, none, none]) (st' := [.int (Int32.ofInt 0)]) (σ' := (zN L X (zhi s) R G nc ns)) (fun n => rfl) ?_
    exact zW.jretb rfl rfl (by decide) hQ1
set_option maxHeartbeats 4000000 in
theorem t_Mining_reachOf (S : zSR R) (V : zV g U F T B ph s) {i : Nat} (p0 : i < 6) (hQ0 : ∀ (v : Int), 0 ≤ v ∧ v ≤ 2 → Q (.inl (some (.int (Int32.ofInt v)))) (zN L X (zhi s) R G nc ns)) : zW ro 114 0 (zfst [.ref 7, .ref (54 + 2 * i)] 3) [] (zN L X (zhi s) R G nc ns) Q := by
  show zW ro 114 0 [some (.ref 7), some (.ref (54 + 2 * i)), none] [] (zN L X (zhi s) R G nc ns) Q
  have f1 := zA_geo (zV_zA V)
  have hB0 := zV_B V
  refine zW.run 1 (pc' := 1) (ls' := [some (.ref 7), some (.ref (54 + 2 * i)), none]) (st' := [.ref (54 + 2 * i)]) (σ' := (zN L X (zhi s) R G nc ns)) (fun n => rfl) ?_
  have f2 := zV_min V (i := i) (by omega)
  refine zW.jget (v := (s (54 + 2 * i) 4)) rfl (zk_min (by omega)) (fun _ _ _ => rfl) rfl ?_
  refine zW.run 1 (pc' := 6) (ls' := [some (.ref 7), some (.ref (54 + 2 * i)), none]) (st' := [.int (Int32.ofInt 8), .int (Int32.ofInt (s (54 + 2 * i) 4))]) (σ' := (zN L X (zhi s) R G nc ns)) (fun n => rfl) ?_
  have J4 : ∀ (v3 : Int), (v3 = 2) ∨ (v3 = 1) ∨ (v3 = 0) → zW ro 114 27 [some (.ref 7), some (.ref (54 + 2 * i)), none] [.int (Int32.ofInt v3)] (zN L X (zhi s) R G nc ns) Q := by
    intro v3 c5
    refine zW.run 2 (pc' := 29) (ls' := [some (.ref 7), some (.ref (54 + 2 * i)), some (.int (Int32.ofInt v3))]) (st' := [.int (Int32.ofInt v3)]) (σ' := (zN L X (zhi s) R G nc ns)) (fun n => rfl) ?_
    refine zW.jif_le rfl (by omega) (fun c6 => ?_) (fun c6 => ?_)
    · skip
      refine zW.run 1 (pc' := 54) (ls' := [some (.ref 7), some (.ref (54 + 2 * i)), some (.int (Int32.ofInt v3))]) (st' := [.int (Int32.ofInt v3)]) (σ' := (zN L X (zhi s) R G nc ns)) (fun n => rfl) ?_
      exact zW.jret rfl rfl (hQ0 v3 (by omega))
    · skip
      refine zW.run 1 (pc' := 33) (ls' := [some (.ref 7), some (.ref (54 + 2 * i)), some (.int (Int32.ofInt v3))]) (st' := [.ref 7]) (σ' := (zN L X (zhi s) R G nc ns)) (fun n => rfl) ?_
      refine zW.getf (v := .ref 8) rfl rfl (zr_7_0 S) ?_
      refine zW.run 1 (pc' := 37) (ls' := [some (.ref 7), some (.ref (54 + 2 * i)), some (.int (Int32.ofInt v3))]) (st' := [.ref (54 + 2 * i), .ref 8]) (σ' := (zN L X (zhi s) R G nc ns)) (fun n => rfl) ?_
      refine zW.callV rfl (by decide) rfl rfl rfl rfl (zk_min (by omega)) (Nat.le_of_ble_eq_true rfl) ?_
      refine t_Mine_head S V (i := i) (by omega) (fun v_7 f8 => ?_)
      show zW ro 114 40 [some (.ref 7), some (.ref (54 + 2 * i)), some (.int (Int32.ofInt v3))] [.int (Int32.ofInt v_7), .ref 8] (zN L X (zhi s) R G nc ns) Q
      refine zW.callV rfl (by decide) rfl rfl rfl rfl rfl (Nat.le_of_ble_eq_true rfl) ?_
      refine t_Ground_heightOf S V (x := v_7) (by omega) (fun v_9 f10 f11 => ?_)
      show zW ro 114 43 [some (.ref 7), some (.ref (54 + 2 * i)), some (.int (Int32.ofInt v3))] [.int (Int32.ofInt v_9)] (zN L X (zhi s) R G nc ns) Q
      refine zW.run 1 (pc' := 44) (ls' := [some (.ref 7), some (.ref (54 + 2 * i)), some (.int (Int32.ofInt v3))]) (st' := [.int (Int32.ofInt 3), .int (Int32.ofInt v_9)]) (σ' := (zN L X (zhi s) R G nc ns)) (fun n => rfl) ?_
      refine zW.jcmp_lt rfl (by omega) (fun c12 => ?_) (fun c12 => ?_)
      · skip
        refine zW.run 1 (pc' := 54) (ls' := [some (.ref 7), some (.ref (54 + 2 * i)), some (.int (Int32.ofInt v3))]) (st' := [.int (Int32.ofInt v3)]) (σ' := (zN L X (zhi s) R G nc ns)) (fun n => rfl) ?_
        exact zW.jret rfl rfl (hQ0 v3 (by omega))
      · skip
        refine zW.run 2 (pc' := 49) (ls' := [some (.ref 7), some (.ref (54 + 2 * i)), some (.int (Int32.ofInt v3))]) (st' := [.int (Int32.ofInt 1), .int (Int32.ofInt v3)]) (σ' := (zN L X (zhi s) R G nc ns)) (fun n => rfl) ?_
        refine zW.jsub rfl ?_
        refine zW.run 1 (pc' := 54) (ls' := [some (.ref 7), some (.ref (54 + 2 * i)), some (.int (Int32.ofInt v3))]) (st' := [.int (Int32.ofInt (v3 - 1))]) (σ' := (zN L X (zhi s) R G nc ns)) (fun n => rfl) ?_
        exact zW.jret rfl rfl (hQ0 (v3 - 1) (by omega))
  refine zW.icmp_ge rfl (fun _ => ?_) (fun _ => ?_)
  · skip
    refine zW.run 1 (pc' := 14) (ls' := [some (.ref 7), some (.ref (54 + 2 * i)), none]) (st' := [.ref (54 + 2 * i)]) (σ' := (zN L X (zhi s) R G nc ns)) (fun n => rfl) ?_
    refine zW.jget (v := (s (54 + 2 * i) 4)) rfl (zk_min (by omega)) (fun _ _ _ => rfl) rfl ?_
    refine zW.run 1 (pc' := 19) (ls' := [some (.ref 7), some (.ref (54 + 2 * i)), none]) (st' := [.int (Int32.ofInt 24), .int (Int32.ofInt (s (54 + 2 * i) 4))]) (σ' := (zN L X (zhi s) R G nc ns)) (fun n => rfl) ?_
    refine zW.icmp_ge rfl (fun _ => ?_) (fun _ => ?_)
    · skip
      refine zW.run 1 (pc' := 27) (ls' := [some (.ref 7), some (.ref (54 + 2 * i)), none]) (st' := [.int (Int32.ofInt 2)]) (σ' := (zN L X (zhi s) R G nc ns)) (fun n => rfl) ?_
      exact J4 2 (by omega)
    · skip
      refine zW.run 2 (pc' := 27) (ls' := [some (.ref 7), some (.ref (54 + 2 * i)), none]) (st' := [.int (Int32.ofInt 1)]) (σ' := (zN L X (zhi s) R G nc ns)) (fun n => rfl) ?_
      exact J4 1 (by omega)
  · skip
    refine zW.run 2 (pc' := 27) (ls' := [some (.ref 7), some (.ref (54 + 2 * i)), none]) (st' := [.int (Int32.ofInt 0)]) (σ' := (zN L X (zhi s) R G nc ns)) (fun n => rfl) ?_
    exact J4 0 (by omega)
set_option maxHeartbeats 4000000 in
theorem t_Mining_isMouth (S : zSR R) {x : Int} {y : Int} (p0 : -2147483648 ≤ x ∧ x < 2147483648) (p1 : -2147483648 ≤ y ∧ y < 2147483648) (hQ0 : Q (.inl (some (.int (Int32.ofInt 1)))) (zN L X (zhi s) R G nc ns)) (hQ1 : Q (.inl (some (.int (Int32.ofInt 0)))) (zN L X (zhi s) R G nc ns)) : zW ro 113 0 (zfst [.int (Int32.ofInt x), .int (Int32.ofInt y)] 2) [] (zN L X (zhi s) R G nc ns) Q := by
  show zW ro 113 0 [some (.int (Int32.ofInt x)), some (.int (Int32.ofInt y))] [] (zN L X (zhi s) R G nc ns) Q
  refine zW.run 1 (pc' := 1) (ls' := [some (.int (Int32.ofInt x)), some (.int (Int32.ofInt y))]) (st' := [.int (Int32.ofInt x)]) (σ' := (zN L X (zhi s) R G nc ns)) (fun n => rfl) ?_
  refine zW.jif_ne rfl (by omega) (fun c1 => ?_) (fun c1 => ?_)
  · skip
    refine zW.run 2 (pc' := 17) (ls' := [some (.int (Int32.ofInt x)), some (.int (Int32.ofInt y))]) (st' := [.int (Int32.ofInt 1), .int (Int32.ofInt y)]) (σ' := (zN L X (zhi s) R G nc ns)) (fun n => rfl) ?_
    refine zW.jcmp_eq rfl (by omega) (fun c2 => ?_) (fun c2 => ?_)
    · skip
      refine zW.run 2 (pc' := 35) (ls' := [some (.int (Int32.ofInt x)), some (.int (Int32.ofInt y))]) (st' := [.int (Int32.ofInt 1)]) (σ' := (zN L X (zhi s) R G nc ns)) (fun n => rfl) ?_
      exact zW.jretb rfl rfl (by decide) hQ0
    · skip
      refine zW.run 2 (pc' := 22) (ls' := [some (.int (Int32.ofInt x)), some (.int (Int32.ofInt y))]) (st' := [.int (Int32.ofInt 3), .int (Int32.ofInt y)]) (σ' := (zN L X (zhi s) R G nc ns)) (fun n => rfl) ?_
      refine zW.jcmp_eq rfl (by omega) (fun c3 => ?_) (fun c3 => ?_)
      · skip
        refine zW.run 2 (pc' := 35) (ls' := [some (.int (Int32.ofInt x)), some (.int (Int32.ofInt y))]) (st' := [.int (Int32.ofInt 1)]) (σ' := (zN L X (zhi s) R G nc ns)) (fun n => rfl) ?_
        exact zW.jretb rfl rfl (by decide) hQ0
      · skip
        refine zW.run 2 (pc' := 27) (ls' := [some (.int (Int32.ofInt x)), some (.int (Int32.ofInt y))]) (st' := [.int (Int32.ofInt 4), .int (Int32.ofInt y)]) (σ' := (zN L X (zhi s) R G nc ns)) (fun n => rfl) ?_
        refine zW.jcmp_ne rfl (by omega) (fun c4 => ?_) (fun c4 => ?_)
        · skip
          refine zW.run 1 (pc' := 35) (ls' := [some (.int (Int32.ofInt x)), some (.int (Int32.ofInt y))]) (st' := [.int (Int32.ofInt 0)]) (σ' := (zN L X (zhi s) R G nc ns)) (fun n => rfl) ?_
          exact zW.jretb rfl rfl (by decide) hQ1
        · skip
          refine zW.run 2 (pc' := 35) (ls' := [some (.int (Int32.ofInt x)), some (.int (Int32.ofInt y))]) (st' := [.int (Int32.ofInt 1)]) (σ' := (zN L X (zhi s) R G nc ns)) (fun n => rfl) ?_
          exact zW.jretb rfl rfl (by decide) hQ0
  · skip
    refine zW.run 2 (pc' := 6) (ls' := [some (.int (Int32.ofInt x)), some (.int (Int32.ofInt y))]) (st' := [.int (Int32.ofInt 5), .int (Int32.ofInt y)]) (σ' := (zN L X (zhi s) R G nc ns)) (fun n => rfl) ?_
    refine zW.jcmp_ne rfl (by omega) (fun c5 => ?_) (fun c5 => ?_)
    · skip
      refine zW.run 1 (pc' := 14) (ls' := [some (.int (Int32.ofInt x)), some (.int (Int32.ofInt y))]) (st' := [.int (Int32.ofInt 0)]) (σ' := (zN L X (zhi s) R G nc ns)) (fun n => rfl) ?_
      exact zW.jretb rfl rfl (by decide) hQ1
    · skip
      refine zW.run 2 (pc' := 14) (ls' := [some (.int (Int32.ofInt x)), some (.int (Int32.ofInt y))]) (st' := [.int (Int32.ofInt 1)]) (σ' := (zN L X (zhi s) R G nc ns)) (fun n => rfl) ?_
      exact zW.jretb rfl rfl (by decide) hQ0
set_option maxHeartbeats 4000000 in
theorem t_Midnight_guardsOf (S : zSR R) (V : zV g U F T B ph s)   (hQ0 : ∀ (v : Int), 0 ≤ v ∧ v ≤ 12 → Q (.inl (some (.int (Int32.ofInt v)))) (zN L X (zhi s) R G nc ns)) : zW ro 100 0 (zfst [.ref 7] 6) [] (zN L X (zhi s) R G nc ns) Q := by
  show zW ro 100 0 [some (.ref 7), none, none, none, none, none] [] (zN L X (zhi s) R G nc ns) Q
  have f1 := zA_geo (zV_zA V)
  have hB0 := zV_B V
  refine zW.run 3 (pc' := 3) (ls' := [some (.ref 7), some (.int (Int32.ofInt 0)), none, none, none, none]) (st' := [.ref 7]) (σ' := (zN L X (zhi s) R G nc ns)) (fun n => rfl) ?_
  refine zW.getf (v := .ref 19) rfl rfl (zr_7_2 S) ?_
  refine zW.run 2 (pc' := 8) (ls' := [some (.ref 7), some (.int (Int32.ofInt 0)), some (.ref 19), none, none, none]) (st' := [.ref 19]) (σ' := (zN L X (zhi s) R G nc ns)) (fun n => rfl) ?_
  refine zW.alen rfl rfl (by decide) ?_
  show zW ro 100 9 [some (.ref 7), some (.int (Int32.ofInt 0)), some (.ref 19), none, none, none] [.int (Int32.ofInt 12)] (zN L X (zhi s) R G nc ns) Q
  refine zW.run 3 (pc' := 13) (ls' := [some (.ref 7), some (.int (Int32.ofInt 0)), some (.ref 19), some (.int (Int32.ofInt 12)), some (.int (Int32.ofInt 0)), none]) (st' := []) (σ' := (zN L X (zhi s) R G nc ns)) (fun n => rfl) ?_
  have J7 : ∀ m : Nat, ∀ (i_2 : Nat) (a_3 : Int) (w4 : Option Value), i_2 ≤ 12 → 0 ≤ a_3 ∧ a_3 ≤ i_2 → 13 - i_2 < m → zW ro 100 13 [some (.ref 7), some (.int (Int32.ofInt a_3)), some (.ref 19), some (.int (Int32.ofInt 12)), some (.int (Int32.ofInt (i_2 : Int))), w4] [] (zN L X (zhi s) R G nc ns) Q := by
    intro m
    induction m with
    | zero => intros; omega
    | succ m ih8 =>
      intro i_2 a_3 w4 c5 c6 hm9
      refine zW.run 2 (pc' := 16) (ls' := [some (.ref 7), some (.int (Int32.ofInt a_3)), some (.ref 19), some (.int (Int32.ofInt 12)), some (.int (Int32.ofInt (i_2 : Int))), w4]) (st' := [.int (Int32.ofInt 12), .int (Int32.ofInt (i_2 : Int))]) (σ' := (zN L X (zhi s) R G nc ns)) (fun n => rfl) ?_
      refine zW.jcmp_ge rfl (by omega) (fun c10 => ?_) (fun c10 => ?_)
      · skip
        refine zW.run 1 (pc' := 51) (ls' := [some (.ref 7), some (.int (Int32.ofInt a_3)), some (.ref 19), some (.int (Int32.ofInt 12)), some (.int (Int32.ofInt (i_2 : Int))), w4]) (st' := [.int (Int32.ofInt a_3)]) (σ' := (zN L X (zhi s) R G nc ns)) (fun n => rfl) ?_
        exact zW.jret rfl rfl (hQ0 a_3 (by omega))
      · skip
        refine zW.run 2 (pc' := 22) (ls' := [some (.ref 7), some (.int (Int32.ofInt a_3)), some (.ref 19), some (.int (Int32.ofInt 12)), some (.int (Int32.ofInt (i_2 : Int))), w4]) (st' := [.int (Int32.ofInt (i_2 : Int)), .ref 19]) (σ' := (zN L X (zhi s) R G nc ns)) (fun n => rfl) ?_
        refine zW.jaald (n := 12) (v := .ref (42 + i_2)) rfl rfl (by decide) (by decide) (by omega) (zr_com S (by omega)) ?_
        refine zW.run 2 (pc' := 27) (ls' := [some (.ref 7), some (.int (Int32.ofInt a_3)), some (.ref 19), some (.int (Int32.ofInt 12)), some (.int (Int32.ofInt (i_2 : Int))), some (.ref (42 + i_2))]) (st' := [.ref (42 + i_2)]) (σ' := (zN L X (zhi s) R G nc ns)) (fun n => rfl) ?_
        have f11 := zV_com V (i := i_2) (by omega)
        refine zW.jget (v := (s (42 + i_2) 0)) rfl (zk_com (by omega)) (fun _ _ _ => rfl) rfl ?_
        refine zW.jif_ne rfl (by omega) (fun c12 => ?_) (fun c12 => ?_)
        · skip
          refine zW.jinc (ls' := [some (.ref 7), some (.int (Int32.ofInt a_3)), some (.ref 19), some (.int (Int32.ofInt 12)), some (.int (Int32.ofInt ((i_2 : Int) + 1))), some (.ref (42 + i_2))]) rfl (Nat.le_of_ble_eq_true rfl) rfl rfl ?_
          refine zW.run 1 (pc' := 13) (ls' := [some (.ref 7), some (.int (Int32.ofInt a_3)), some (.ref 19), some (.int (Int32.ofInt 12)), some (.int (Int32.ofInt ((i_2 : Int) + 1))), some (.ref (42 + i_2))]) (st' := []) (σ' := (zN L X (zhi s) R G nc ns)) (fun n => rfl) ?_
          exact ih8 (i_2 + 1) a_3 (some (.ref (42 + i_2))) (by omega) (by omega) (by omega)
        · skip
          refine zW.run 1 (pc' := 35) (ls' := [some (.ref 7), some (.int (Int32.ofInt a_3)), some (.ref 19), some (.int (Int32.ofInt 12)), some (.int (Int32.ofInt (i_2 : Int))), some (.ref (42 + i_2))]) (st' := [.ref (42 + i_2)]) (σ' := (zN L X (zhi s) R G nc ns)) (fun n => rfl) ?_
          refine zW.callV rfl (by decide) rfl rfl rfl rfl (zk_com (by omega)) (Nat.le_of_ble_eq_true rfl) ?_
          refine t_Company_isOnGuard S V (i := i_2) (by omega) ?_ ?_
          · skip
            show zW ro 100 38 [some (.ref 7), some (.int (Int32.ofInt a_3)), some (.ref 19), some (.int (Int32.ofInt 12)), some (.int (Int32.ofInt (i_2 : Int))), some (.ref (42 + i_2))] [.int (Int32.ofInt 1)] (zN L X (zhi s) R G nc ns) Q
            refine zW.run 1 (pc' := 41) (ls' := [some (.ref 7), some (.int (Int32.ofInt a_3)), some (.ref 19), some (.int (Int32.ofInt 12)), some (.int (Int32.ofInt (i_2 : Int))), some (.ref (42 + i_2))]) (st' := []) (σ' := (zN L X (zhi s) R G nc ns)) (fun n => rfl) ?_
            refine zW.jinc (ls' := [some (.ref 7), some (.int (Int32.ofInt (a_3 + 1))), some (.ref 19), some (.int (Int32.ofInt 12)), some (.int (Int32.ofInt (i_2 : Int))), some (.ref (42 + i_2))]) rfl (Nat.le_of_ble_eq_true rfl) rfl rfl ?_
            refine zW.jinc (ls' := [some (.ref 7), some (.int (Int32.ofInt (a_3 + 1))), some (.ref 19), some (.int (Int32.ofInt 12)), some (.int (Int32.ofInt ((i_2 : Int) + 1))), some (.ref (42 + i_2))]) rfl (Nat.le_of_ble_eq_true rfl) rfl rfl ?_
            refine zW.run 1 (pc' := 13) (ls' := [some (.ref 7), some (.int (Int32.ofInt (a_3 + 1))), some (.ref 19), some (.int (Int32.ofInt 12)), some (.int (Int32.ofInt ((i_2 : Int) + 1))), some (.ref (42 + i_2))]) (st' := []) (σ' := (zN L X (zhi s) R G nc ns)) (fun n => rfl) ?_
            exact ih8 (i_2 + 1) (a_3 + 1) (some (.ref (42 + i_2))) (by omega) (by omega) (by omega)
          · skip
            show zW ro 100 38 [some (.ref 7), some (.int (Int32.ofInt a_3)), some (.ref 19), some (.int (Int32.ofInt 12)), some (.int (Int32.ofInt (i_2 : Int))), some (.ref (42 + i_2))] [.int (Int32.ofInt 0)] (zN L X (zhi s) R G nc ns) Q
            refine zW.run 1 (pc' := 44) (ls' := [some (.ref 7), some (.int (Int32.ofInt a_3)), some (.ref 19), some (.int (Int32.ofInt 12)), some (.int (Int32.ofInt (i_2 : Int))), some (.ref (42 + i_2))]) (st' := []) (σ' := (zN L X (zhi s) R G nc ns)) (fun n => rfl) ?_
            refine zW.jinc (ls' := [some (.ref 7), some (.int (Int32.ofInt a_3)), some (.ref 19), some (.int (Int32.ofInt 12)), some (.int (Int32.ofInt ((i_2 : Int) + 1))), some (.ref (42 + i_2))]) rfl (Nat.le_of_ble_eq_true rfl) rfl rfl ?_
            refine zW.run 1 (pc' := 13) (ls' := [some (.ref 7), some (.int (Int32.ofInt a_3)), some (.ref 19), some (.int (Int32.ofInt 12)), some (.int (Int32.ofInt ((i_2 : Int) + 1))), some (.ref (42 + i_2))]) (st' := []) (σ' := (zN L X (zhi s) R G nc ns)) (fun n => rfl) ?_
            exact ih8 (i_2 + 1) a_3 (some (.ref (42 + i_2))) (by omega) (by omega) (by omega)
  exact J7 _ 0 0 none (by omega) (by omega) (Nat.lt_succ_self _)
set_option maxHeartbeats 4000000 in
theorem t_Duties_canAssault (S : zSR R) (V : zV g U F T B ph s) {a : Int} {b : Int} (p0 : -2147483648 ≤ a ∧ a < 2147483648) (p1 : -2147483648 ≤ b ∧ b < 2147483648) (hQ0 : Q (.inl (some (.int (Int32.ofInt 1)))) (zN L X (zhi s) R G nc ns)) (hQ1 : Q (.inl (some (.int (Int32.ofInt 0)))) (zN L X (zhi s) R G nc ns)) : zW ro 42 0 (zfst [.ref 8, .int (Int32.ofInt a), .int (Int32.ofInt b)] 5) [] (zN L X (zhi s) R G nc ns) Q := by
  show zW ro 42 0 [some (.ref 8), some (.int (Int32.ofInt a)), some (.int (Int32.ofInt b)), none, none] [] (zN L X (zhi s) R G nc ns) Q
  have f1 := zA_geo (zV_zA V)
  have hB0 := zV_B V
  refine zW.run 2 (pc' := 2) (ls' := [some (.ref 8), some (.int (Int32.ofInt a)), some (.int (Int32.ofInt b)), none, none]) (st' := [.int (Int32.ofInt b), .ref 8]) (σ' := (zN L X (zhi s) R G nc ns)) (fun n => rfl) ?_
  refine zW.callV rfl (by decide) rfl rfl rfl rfl rfl (Nat.le_of_ble_eq_true rfl) ?_
  refine t_Ground_workOf S V (x := b) (by omega) (fun v_2 f3 f4 => ?_)
  show zW ro 42 5 [some (.ref 8), some (.int (Int32.ofInt a)), some (.int (Int32.ofInt b)), none, none] [.int (Int32.ofInt v_2)] (zN L X (zhi s) R G nc ns) Q
  refine zW.run 3 (pc' := 8) (ls' := [some (.ref 8), some (.int (Int32.ofInt a)), some (.int (Int32.ofInt b)), some (.int (Int32.ofInt v_2)), none]) (st' := [.int (Int32.ofInt 1), .int (Int32.ofInt v_2)]) (σ' := (zN L X (zhi s) R G nc ns)) (fun n => rfl) ?_
  refine zW.jcmp_eq rfl (by omega) (fun c5 => ?_) (fun c5 => ?_)
  · skip
    refine zW.run 1 (pc' := 21) (ls' := [some (.ref 8), some (.int (Int32.ofInt a)), some (.int (Int32.ofInt b)), some (.int (Int32.ofInt v_2)), none]) (st' := [.int (Int32.ofInt 0)]) (σ' := (zN L X (zhi s) R G nc ns)) (fun n => rfl) ?_
    exact zW.jretb rfl rfl (by decide) hQ1
  · skip
    refine zW.run 3 (pc' := 14) (ls' := [some (.ref 8), some (.int (Int32.ofInt a)), some (.int (Int32.ofInt b)), some (.int (Int32.ofInt v_2)), none]) (st' := [.int (Int32.ofInt b), .int (Int32.ofInt a), .ref 8]) (σ' := (zN L X (zhi s) R G nc ns)) (fun n => rfl) ?_
    refine zW.callV rfl (by decide) rfl rfl rfl rfl rfl (Nat.le_of_ble_eq_true rfl) ?_
    refine t_Ground_touches S (zV_zA V) (a := a) (b := b) (by omega) (by omega) (fun f6 f7 => ?_) ?_
    · skip
      show zW ro 42 17 [some (.ref 8), some (.int (Int32.ofInt a)), some (.int (Int32.ofInt b)), some (.int (Int32.ofInt v_2)), none] [.int (Int32.ofInt 1)] (zN L X (zhi s) R G nc ns) Q
      refine zW.run 3 (pc' := 24) (ls' := [some (.ref 8), some (.int (Int32.ofInt a)), some (.int (Int32.ofInt b)), some (.int (Int32.ofInt v_2)), none]) (st' := [.int (Int32.ofInt a), .ref 8]) (σ' := (zN L X (zhi s) R G nc ns)) (fun n => rfl) ?_
      refine zW.callV rfl (by decide) rfl rfl rfl rfl rfl (Nat.le_of_ble_eq_true rfl) ?_
      refine t_Ground_workOf S V (x := a) (by omega) (fun v_8 f9 f10 => ?_)
      show zW ro 42 27 [some (.ref 8), some (.int (Int32.ofInt a)), some (.int (Int32.ofInt b)), some (.int (Int32.ofInt v_2)), none] [.int (Int32.ofInt v_8)] (zN L X (zhi s) R G nc ns) Q
      refine zW.run 3 (pc' := 31) (ls' := [some (.ref 8), some (.int (Int32.ofInt a)), some (.int (Int32.ofInt b)), some (.int (Int32.ofInt v_2)), some (.int (Int32.ofInt v_8))]) (st' := [.int (Int32.ofInt 2), .int (Int32.ofInt v_2)]) (σ' := (zN L X (zhi s) R G nc ns)) (fun n => rfl) ?_
      refine zW.jcmp_ne rfl (by omega) (fun c11 => ?_) (fun c11 => ?_)
      · skip
        refine zW.run 2 (pc' := 58) (ls' := [some (.ref 8), some (.int (Int32.ofInt a)), some (.int (Int32.ofInt b)), some (.int (Int32.ofInt v_2)), some (.int (Int32.ofInt v_8))]) (st' := [.int (Int32.ofInt 1)]) (σ' := (zN L X (zhi s) R G nc ns)) (fun n => rfl) ?_
        exact zW.jretb rfl rfl (by decide) hQ0
      · skip
        refine zW.run 2 (pc' := 37) (ls' := [some (.ref 8), some (.int (Int32.ofInt a)), some (.int (Int32.ofInt b)), some (.int (Int32.ofInt v_2)), some (.int (Int32.ofInt v_8))]) (st' := [.int (Int32.ofInt 5), .int (Int32.ofInt v_8)]) (σ' := (zN L X (zhi s) R G nc ns)) (fun n => rfl) ?_
        refine zW.jcmp_eq rfl (by omega) (fun c12 => ?_) (fun c12 => ?_)
        · skip
          refine zW.run 2 (pc' := 58) (ls' := [some (.ref 8), some (.int (Int32.ofInt a)), some (.int (Int32.ofInt b)), some (.int (Int32.ofInt v_2)), some (.int (Int32.ofInt v_8))]) (st' := [.int (Int32.ofInt 1)]) (σ' := (zN L X (zhi s) R G nc ns)) (fun n => rfl) ?_
          exact zW.jretb rfl rfl (by decide) hQ0
        · skip
          refine zW.run 2 (pc' := 44) (ls' := [some (.ref 8), some (.int (Int32.ofInt a)), some (.int (Int32.ofInt b)), some (.int (Int32.ofInt v_2)), some (.int (Int32.ofInt v_8))]) (st' := [.int (Int32.ofInt 7), .int (Int32.ofInt v_8)]) (σ' := (zN L X (zhi s) R G nc ns)) (fun n => rfl) ?_
          refine zW.jcmp_eq rfl (by omega) (fun c13 => ?_) (fun c13 => ?_)
          · skip
            refine zW.run 2 (pc' := 58) (ls' := [some (.ref 8), some (.int (Int32.ofInt a)), some (.int (Int32.ofInt b)), some (.int (Int32.ofInt v_2)), some (.int (Int32.ofInt v_8))]) (st' := [.int (Int32.ofInt 1)]) (σ' := (zN L X (zhi s) R G nc ns)) (fun n => rfl) ?_
            exact zW.jretb rfl rfl (by decide) hQ0
          · skip
            refine zW.run 2 (pc' := 50) (ls' := [some (.ref 8), some (.int (Int32.ofInt a)), some (.int (Int32.ofInt b)), some (.int (Int32.ofInt v_2)), some (.int (Int32.ofInt v_8))]) (st' := [.int (Int32.ofInt 2), .int (Int32.ofInt v_8)]) (σ' := (zN L X (zhi s) R G nc ns)) (fun n => rfl) ?_
            refine zW.jcmp_ne rfl (by omega) (fun c14 => ?_) (fun c14 => ?_)
            · skip
              refine zW.run 1 (pc' := 58) (ls' := [some (.ref 8), some (.int (Int32.ofInt a)), some (.int (Int32.ofInt b)), some (.int (Int32.ofInt v_2)), some (.int (Int32.ofInt v_8))]) (st' := [.int (Int32.ofInt 0)]) (σ' := (zN L X (zhi s) R G nc ns)) (fun n => rfl) ?_
              exact zW.jretb rfl rfl (by decide) hQ1
            · skip
              refine zW.run 2 (pc' := 58) (ls' := [some (.ref 8), some (.int (Int32.ofInt a)), some (.int (Int32.ofInt b)), some (.int (Int32.ofInt v_2)), some (.int (Int32.ofInt v_8))]) (st' := [.int (Int32.ofInt 1)]) (σ' := (zN L X (zhi s) R G nc ns)) (fun n => rfl) ?_
              exact zW.jretb rfl rfl (by decide) hQ0
    · skip
      show zW ro 42 17 [some (.ref 8), some (.int (Int32.ofInt a)), some (.int (Int32.ofInt b)), some (.int (Int32.ofInt v_2)), none] [.int (Int32.ofInt 0)] (zN L X (zhi s) R G nc ns) Q
      refine zW.run 2 (pc' := 21) (ls' := [some (.ref 8), some (.int (Int32.ofInt a)), some (.int (Int32.ofInt b)), some (.int (Int32.ofInt v_2)), none]) (st' := [.int (Int32.ofInt 0)]) (σ' := (zN L X (zhi s) R G nc ns)) (fun n => rfl) ?_
      exact zW.jretb rfl rfl (by decide) hQ1
set_option maxHeartbeats 4000000 in
theorem t_Duties_canDig (S : zSR R) (V : zV g U F T B ph s) {a : Int} {b : Int} (p0 : -2147483648 ≤ a ∧ a < 2147483648) (p1 : 0 ≤ b ∧ b < g 2) (hQ0 : ¬ b = 0 → ¬ b = g 3 → s 11 b.toNat = 0 ∨ s 11 b.toNat = 4 ∨ s 11 b.toNat = 6 ∨ s 11 b.toNat = 7 → Q (.inl (some (.int (Int32.ofInt 1)))) (zN L X (zhi s) R G nc ns)) (hQ1 : Q (.inl (some (.int (Int32.ofInt 0)))) (zN L X (zhi s) R G nc ns)) : zW ro 43 0 (zfst [.ref 7, .int (Int32.ofInt a), .int (Int32.ofInt b)] 6) [] (zN L X (zhi s) R G nc ns) Q := by
  show zW ro 43 0 [some (.ref 7), some (.int (Int32.ofInt a)), some (.int (Int32.ofInt b)), none, none, none] [] (zN L X (zhi s) R G nc ns) Q
  have f1 := zA_geo (zV_zA V)
  have hB0 := zV_B V
  refine zW.run 1 (pc' := 1) (ls' := [some (.ref 7), some (.int (Int32.ofInt a)), some (.int (Int32.ofInt b)), none, none, none]) (st' := [.ref 7]) (σ' := (zN L X (zhi s) R G nc ns)) (fun n => rfl) ?_
  refine zW.getf (v := .ref 8) rfl rfl (zr_7_0 S) ?_
  refine zW.run 3 (pc' := 7) (ls' := [some (.ref 7), some (.int (Int32.ofInt a)), some (.int (Int32.ofInt b)), some (.ref 8), none, none]) (st' := [.int (Int32.ofInt b), .ref 8]) (σ' := (zN L X (zhi s) R G nc ns)) (fun n => rfl) ?_
  refine zW.callV rfl (by decide) rfl rfl rfl rfl rfl (Nat.le_of_ble_eq_true rfl) ?_
  refine t_Ground_workOf_e S V (x := b) (by omega) ?_
  show zW ro 43 10 [some (.ref 7), some (.int (Int32.ofInt a)), some (.int (Int32.ofInt b)), some (.ref 8), none, none] [.int (Int32.ofInt (s 11 b.toNat))] (zN L X (zhi s) R G nc ns) Q
  have f2 := zV_sq V (k := b.toNat) (by omega)
  refine zW.run 2 (pc' := 14) (ls' := [some (.ref 7), some (.int (Int32.ofInt a)), some (.int (Int32.ofInt b)), some (.ref 8), some (.int (Int32.ofInt (s 11 b.toNat))), none]) (st' := [.int (Int32.ofInt (s 11 b.toNat))]) (σ' := (zN L X (zhi s) R G nc ns)) (fun n => rfl) ?_
  have J4 : ∀ (v3 : Int), ((s 11 b.toNat) = 0 ∧ v3 = 1) ∨ (¬ (s 11 b.toNat) = 0 ∧ (s 11 b.toNat) = 4 ∧ v3 = 1) ∨ (¬ (s 11 b.toNat) = 0 ∧ ¬ (s 11 b.toNat) = 4 ∧ (s 11 b.toNat) = 6 ∧ v3 = 1) ∨ (¬ (s 11 b.toNat) = 0 ∧ ¬ (s 11 b.toNat) = 4 ∧ ¬ (s 11 b.toNat) = 6 ∧ ¬ (s 11 b.toNat) = 7 ∧ v3 = 0) ∨ (¬ (s 11 b.toNat) = 0 ∧ ¬ (s 11 b.toNat) = 4 ∧ ¬ (s 11 b.toNat) = 6 ∧ (s 11 b.toNat) = 7 ∧ v3 = 1) → zW ro 43 42 [some (.ref 7), some (.int (Int32.ofInt a)), some (.int (Int32.ofInt b)), some (.ref 8), some (.int (Int32.ofInt (s 11 b.toNat))), none] [.int (Int32.ofInt v3)] (zN L X (zhi s) R G nc ns) Q := by
    intro v3 c5
    refine zW.run 2 (pc' := 46) (ls' := [some (.ref 7), some (.int (Int32.ofInt a)), some (.int (Int32.ofInt b)), some (.ref 8), some (.int (Int32.ofInt (s 11 b.toNat))), some (.int (Int32.ofInt v3))]) (st' := [.int (Int32.ofInt v3)]) (σ' := (zN L X (zhi s) R G nc ns)) (fun n => rfl) ?_
    refine zW.jif_eq rfl (by omega) (fun c6 => ?_) (fun c6 => ?_)
    · skip
      refine zW.run 1 (pc' := 88) (ls' := [some (.ref 7), some (.int (Int32.ofInt a)), some (.int (Int32.ofInt b)), some (.ref 8), some (.int (Int32.ofInt (s 11 b.toNat))), some (.int (Int32.ofInt v3))]) (st' := [.int (Int32.ofInt 0)]) (σ' := (zN L X (zhi s) R G nc ns)) (fun n => rfl) ?_
      exact zW.jretb rfl rfl (by decide) hQ1
    · skip
      refine zW.run 3 (pc' := 52) (ls' := [some (.ref 7), some (.int (Int32.ofInt a)), some (.int (Int32.ofInt b)), some (.ref 8), some (.int (Int32.ofInt (s 11 b.toNat))), some (.int (Int32.ofInt v3))]) (st' := [.int (Int32.ofInt b), .int (Int32.ofInt a), .ref 8]) (σ' := (zN L X (zhi s) R G nc ns)) (fun n => rfl) ?_
      refine zW.callV rfl (by decide) rfl rfl rfl rfl rfl (Nat.le_of_ble_eq_true rfl) ?_
      refine t_Ground_touches S (zV_zA V) (a := a) (b := b) (by omega) (by omega) (fun f7 f8 => ?_) ?_
      · skip
        show zW ro 43 55 [some (.ref 7), some (.int (Int32.ofInt a)), some (.int (Int32.ofInt b)), some (.ref 8), some (.int (Int32.ofInt (s 11 b.toNat))), some (.int (Int32.ofInt v3))] [.int (Int32.ofInt 1)] (zN L X (zhi s) R G nc ns) Q
        refine zW.run 3 (pc' := 60) (ls' := [some (.ref 7), some (.int (Int32.ofInt a)), some (.int (Int32.ofInt b)), some (.ref 8), some (.int (Int32.ofInt (s 11 b.toNat))), some (.int (Int32.ofInt v3))]) (st' := [.ref 8, .int (Int32.ofInt b)]) (σ' := (zN L X (zhi s) R G nc ns)) (fun n => rfl) ?_
        refine zW.run 1 (pc' := 63) (ls' := [some (.ref 7), some (.int (Int32.ofInt a)), some (.int (Int32.ofInt b)), some (.ref 8), some (.int (Int32.ofInt (s 11 b.toNat))), some (.int (Int32.ofInt v3))]) (st' := [.int (Int32.ofInt (s 8 13)), .int (Int32.ofInt b)]) (σ' := (zN L X (zhi s) R G nc ns)) (fun n => rfl) ?_
        refine zW.jcmp_eq rfl (by omega) (fun c9 => ?_) (fun c9 => ?_)
        · skip
          refine zW.run 1 (pc' := 88) (ls' := [some (.ref 7), some (.int (Int32.ofInt a)), some (.int (Int32.ofInt b)), some (.ref 8), some (.int (Int32.ofInt (s 11 b.toNat))), some (.int (Int32.ofInt v3))]) (st' := [.int (Int32.ofInt 0)]) (σ' := (zN L X (zhi s) R G nc ns)) (fun n => rfl) ?_
          exact zW.jretb rfl rfl (by decide) hQ1
        · skip
          refine zW.run 2 (pc' := 68) (ls' := [some (.ref 7), some (.int (Int32.ofInt a)), some (.int (Int32.ofInt b)), some (.ref 8), some (.int (Int32.ofInt (s 11 b.toNat))), some (.int (Int32.ofInt v3))]) (st' := [.ref 8, .int (Int32.ofInt b)]) (σ' := (zN L X (zhi s) R G nc ns)) (fun n => rfl) ?_
          refine zW.run 1 (pc' := 71) (ls' := [some (.ref 7), some (.int (Int32.ofInt a)), some (.int (Int32.ofInt b)), some (.ref 8), some (.int (Int32.ofInt (s 11 b.toNat))), some (.int (Int32.ofInt v3))]) (st' := [.int (Int32.ofInt (s 8 12)), .int (Int32.ofInt b)]) (σ' := (zN L X (zhi s) R G nc ns)) (fun n => rfl) ?_
          refine zW.jcmp_eq rfl (by omega) (fun c10 => ?_) (fun c10 => ?_)
          · skip
            refine zW.run 1 (pc' := 88) (ls' := [some (.ref 7), some (.int (Int32.ofInt a)), some (.int (Int32.ofInt b)), some (.ref 8), some (.int (Int32.ofInt (s 11 b.toNat))), some (.int (Int32.ofInt v3))]) (st' := [.int (Int32.ofInt 0)]) (σ' := (zN L X (zhi s) R G nc ns)) (fun n => rfl) ?_
            exact zW.jretb rfl rfl (by decide) hQ1
          · skip
            refine zW.run 3 (pc' := 77) (ls' := [some (.ref 7), some (.int (Int32.ofInt a)), some (.int (Int32.ofInt b)), some (.ref 8), some (.int (Int32.ofInt (s 11 b.toNat))), some (.int (Int32.ofInt v3))]) (st' := [.int (Int32.ofInt b), .int (Int32.ofInt 1), .ref 7]) (σ' := (zN L X (zhi s) R G nc ns)) (fun n => rfl) ?_
            refine zW.callV rfl (by decide) rfl rfl rfl rfl rfl (Nat.le_of_ble_eq_true rfl) ?_
            refine t_Siege_isHeldBy S V (x := 1) (y := b) (by omega) (by omega) ?_ ?_
            · skip
              show zW ro 43 80 [some (.ref 7), some (.int (Int32.ofInt a)), some (.int (Int32.ofInt b)), some (.ref 8), some (.int (Int32.ofInt (s 11 b.toNat))), some (.int (Int32.ofInt v3))] [.int (Int32.ofInt 1)] (zN L X (zhi s) R G nc ns) Q
              refine zW.run 2 (pc' := 88) (ls' := [some (.ref 7), some (.int (Int32.ofInt a)), some (.int (Int32.ofInt b)), some (.ref 8), some (.int (Int32.ofInt (s 11 b.toNat))), some (.int (Int32.ofInt v3))]) (st' := [.int (Int32.ofInt 0)]) (σ' := (zN L X (zhi s) R G nc ns)) (fun n => rfl) ?_
              exact zW.jretb rfl rfl (by decide) hQ1
            · skip
              show zW ro 43 80 [some (.ref 7), some (.int (Int32.ofInt a)), some (.int (Int32.ofInt b)), some (.ref 8), some (.int (Int32.ofInt (s 11 b.toNat))), some (.int (Int32.ofInt v3))] [.int (Int32.ofInt 0)] (zN L X (zhi s) R G nc ns) Q
              refine zW.run 3 (pc' := 88) (ls' := [some (.ref 7), some (.int (Int32.ofInt a)), some (.int (Int32.ofInt b)), some (.ref 8), some (.int (Int32.ofInt (s 11 b.toNat))), some (.int (Int32.ofInt v3))]) (st' := [.int (Int32.ofInt 1)]) (σ' := (zN L X (zhi s) R G nc ns)) (fun n => rfl) ?_
              exact zW.jretb rfl rfl (by decide) (hQ0 (by omega) (by omega) (by omega))
      · skip
        show zW ro 43 55 [some (.ref 7), some (.int (Int32.ofInt a)), some (.int (Int32.ofInt b)), some (.ref 8), some (.int (Int32.ofInt (s 11 b.toNat))), some (.int (Int32.ofInt v3))] [.int (Int32.ofInt 0)] (zN L X (zhi s) R G nc ns) Q
        refine zW.run 2 (pc' := 88) (ls' := [some (.ref 7), some (.int (Int32.ofInt a)), some (.int (Int32.ofInt b)), some (.ref 8), some (.int (Int32.ofInt (s 11 b.toNat))), some (.int (Int32.ofInt v3))]) (st' := [.int (Int32.ofInt 0)]) (σ' := (zN L X (zhi s) R G nc ns)) (fun n => rfl) ?_
        exact zW.jretb rfl rfl (by decide) hQ1
  refine zW.jif_eq rfl (by omega) (fun c11 => ?_) (fun c11 => ?_)
  · skip
    refine zW.run 2 (pc' := 42) (ls' := [some (.ref 7), some (.int (Int32.ofInt a)), some (.int (Int32.ofInt b)), some (.ref 8), some (.int (Int32.ofInt (s 11 b.toNat))), none]) (st' := [.int (Int32.ofInt 1)]) (σ' := (zN L X (zhi s) R G nc ns)) (fun n => rfl) ?_
    exact J4 1 (by omega)
  · skip
    refine zW.run 2 (pc' := 20) (ls' := [some (.ref 7), some (.int (Int32.ofInt a)), some (.int (Int32.ofInt b)), some (.ref 8), some (.int (Int32.ofInt (s 11 b.toNat))), none]) (st' := [.int (Int32.ofInt 4), .int (Int32.ofInt (s 11 b.toNat))]) (σ' := (zN L X (zhi s) R G nc ns)) (fun n => rfl) ?_
    refine zW.jcmp_eq rfl (by omega) (fun c12 => ?_) (fun c12 => ?_)
    · skip
      refine zW.run 2 (pc' := 42) (ls' := [some (.ref 7), some (.int (Int32.ofInt a)), some (.int (Int32.ofInt b)), some (.ref 8), some (.int (Int32.ofInt (s 11 b.toNat))), none]) (st' := [.int (Int32.ofInt 1)]) (σ' := (zN L X (zhi s) R G nc ns)) (fun n => rfl) ?_
      exact J4 1 (by omega)
    · skip
      refine zW.run 2 (pc' := 27) (ls' := [some (.ref 7), some (.int (Int32.ofInt a)), some (.int (Int32.ofInt b)), some (.ref 8), some (.int (Int32.ofInt (s 11 b.toNat))), none]) (st' := [.int (Int32.ofInt 6), .int (Int32.ofInt (s 11 b.toNat))]) (σ' := (zN L X (zhi s) R G nc ns)) (fun n => rfl) ?_
      refine zW.jcmp_eq rfl (by omega) (fun c13 => ?_) (fun c13 => ?_)
      · skip
        refine zW.run 2 (pc' := 42) (ls' := [some (.ref 7), some (.int (Int32.ofInt a)), some (.int (Int32.ofInt b)), some (.ref 8), some (.int (Int32.ofInt (s 11 b.toNat))), none]) (st' := [.int (Int32.ofInt 1)]) (σ' := (zN L X (zhi s) R G nc ns)) (fun n => rfl) ?_
        exact J4 1 (by omega)
      · skip
        refine zW.run 2 (pc' := 34) (ls' := [some (.ref 7), some (.int (Int32.ofInt a)), some (.int (Int32.ofInt b)), some (.ref 8), some (.int (Int32.ofInt (s 11 b.toNat))), none]) (st' := [.int (Int32.ofInt 7), .int (Int32.ofInt (s 11 b.toNat))]) (σ' := (zN L X (zhi s) R G nc ns)) (fun n => rfl) ?_
        refine zW.jcmp_ne rfl (by omega) (fun c14 => ?_) (fun c14 => ?_)
        · skip
          refine zW.run 1 (pc' := 42) (ls' := [some (.ref 7), some (.int (Int32.ofInt a)), some (.int (Int32.ofInt b)), some (.ref 8), some (.int (Int32.ofInt (s 11 b.toNat))), none]) (st' := [.int (Int32.ofInt 0)]) (σ' := (zN L X (zhi s) R G nc ns)) (fun n => rfl) ?_
          exact J4 0 (by omega)
        · skip
          refine zW.run 2 (pc' := 42) (ls' := [some (.ref 7), some (.int (Int32.ofInt a)), some (.int (Int32.ofInt b)), some (.ref 8), some (.int (Int32.ofInt (s 11 b.toNat))), none]) (st' := [.int (Int32.ofInt 1)]) (σ' := (zN L X (zhi s) R G nc ns)) (fun n => rfl) ?_
          exact J4 1 (by omega)
set_option maxHeartbeats 4000000 in
theorem t_Duties_defenceOf (S : zSR R) (V : zV g U F T B ph s) {x : Int} {y : Int} (p0 : -2147483648 ≤ x ∧ x < 2147483648) (p1 : -2147483648 ≤ y ∧ y < 2147483648) (hQ0 : ∀ (v : Int32), Q (.inl (some (.int v))) (zN L X (zhi s) R G nc ns)) : zW ro 44 0 (zfst [.ref 7, .int (Int32.ofInt x), .int (Int32.ofInt y)] 9) [] (zN L X (zhi s) R G nc ns) Q := by
  show zW ro 44 0 [some (.ref 7), some (.int (Int32.ofInt x)), some (.int (Int32.ofInt y)), none, none, none, none, none, none] [] (zN L X (zhi s) R G nc ns) Q
  have f1 := zA_geo (zV_zA V)
  have hB0 := zV_B V
  refine zW.run 5 (pc' := 6) (ls' := [some (.ref 7), some (.int (Int32.ofInt x)), some (.int (Int32.ofInt y)), some (.int (Int32.ofInt 0)), some (.int (Int32.ofInt 0)), none, none, none, none]) (st' := [.ref 7]) (σ' := (zN L X (zhi s) R G nc ns)) (fun n => rfl) ?_
  refine zW.getf (v := .ref 19) rfl rfl (zr_7_2 S) ?_
  refine zW.run 2 (pc' := 13) (ls' := [some (.ref 7), some (.int (Int32.ofInt x)), some (.int (Int32.ofInt y)), some (.int (Int32.ofInt 0)), some (.int (Int32.ofInt 0)), some (.ref 19), none, none, none]) (st' := [.ref 19]) (σ' := (zN L X (zhi s) R G nc ns)) (fun n => rfl) ?_
  refine zW.alen rfl rfl (by decide) ?_
  show zW ro 44 14 [some (.ref 7), some (.int (Int32.ofInt x)), some (.int (Int32.ofInt y)), some (.int (Int32.ofInt 0)), some (.int (Int32.ofInt 0)), some (.ref 19), none, none, none] [.int (Int32.ofInt 12)] (zN L X (zhi s) R G nc ns) Q
  refine zW.run 3 (pc' := 19) (ls' := [some (.ref 7), some (.int (Int32.ofInt x)), some (.int (Int32.ofInt y)), some (.int (Int32.ofInt 0)), some (.int (Int32.ofInt 0)), some (.ref 19), some (.int (Int32.ofInt 12)), some (.int (Int32.ofInt 0)), none]) (st' := []) (σ' := (zN L X (zhi s) R G nc ns)) (fun n => rfl) ?_
  have J8 : ∀ m : Nat, ∀ (i_2 : Nat) (a_3 : Int) (b_4 : Int) (w5 : Option Value), i_2 ≤ 12 → b_4 = 0 ∨ b_4 = 1 → 13 - i_2 < m → zW ro 44 19 [some (.ref 7), some (.int (Int32.ofInt x)), some (.int (Int32.ofInt y)), some (.int (Int32.ofInt a_3)), some (.int (Int32.ofInt b_4)), some (.ref 19), some (.int (Int32.ofInt 12)), some (.int (Int32.ofInt (i_2 : Int))), w5] [] (zN L X (zhi s) R G nc ns) Q := by
    intro m
    induction m with
    | zero => intros; omega
    | succ m ih9 =>
      intro i_2 a_3 b_4 w5 c6 c7 hm10
      refine zW.run 2 (pc' := 23) (ls' := [some (.ref 7), some (.int (Int32.ofInt x)), some (.int (Int32.ofInt y)), some (.int (Int32.ofInt a_3)), some (.int (Int32.ofInt b_4)), some (.ref 19), some (.int (Int32.ofInt 12)), some (.int (Int32.ofInt (i_2 : Int))), w5]) (st' := [.int (Int32.ofInt 12), .int (Int32.ofInt (i_2 : Int))]) (σ' := (zN L X (zhi s) R G nc ns)) (fun n => rfl) ?_
      refine zW.jcmp_ge rfl (by omega) (fun c11 => ?_) (fun c11 => ?_)
      · skip
        refine zW.run 1 (pc' := 79) (ls' := [some (.ref 7), some (.int (Int32.ofInt x)), some (.int (Int32.ofInt y)), some (.int (Int32.ofInt a_3)), some (.int (Int32.ofInt b_4)), some (.ref 19), some (.int (Int32.ofInt 12)), some (.int (Int32.ofInt (i_2 : Int))), w5]) (st' := [.ref 7]) (σ' := (zN L X (zhi s) R G nc ns)) (fun n => rfl) ?_
        refine zW.getf (v := .ref 8) rfl rfl (zr_7_0 S) ?_
        refine zW.run 1 (pc' := 83) (ls' := [some (.ref 7), some (.int (Int32.ofInt x)), some (.int (Int32.ofInt y)), some (.int (Int32.ofInt a_3)), some (.int (Int32.ofInt b_4)), some (.ref 19), some (.int (Int32.ofInt 12)), some (.int (Int32.ofInt (i_2 : Int))), w5]) (st' := [.int (Int32.ofInt y), .ref 8]) (σ' := (zN L X (zhi s) R G nc ns)) (fun n => rfl) ?_
        refine zW.callV rfl (by decide) rfl rfl rfl rfl rfl (Nat.le_of_ble_eq_true rfl) ?_
        refine t_Ground_workOf S V (x := y) (by omega) (fun v_12 f13 f14 => ?_)
        show zW ro 44 86 [some (.ref 7), some (.int (Int32.ofInt x)), some (.int (Int32.ofInt y)), some (.int (Int32.ofInt a_3)), some (.int (Int32.ofInt b_4)), some (.ref 19), some (.int (Int32.ofInt 12)), some (.int (Int32.ofInt (i_2 : Int))), w5] [.int (Int32.ofInt v_12)] (zN L X (zhi s) R G nc ns) Q
        refine zW.run 3 (pc' := 91) (ls' := [some (.ref 7), some (.int (Int32.ofInt x)), some (.int (Int32.ofInt y)), some (.int (Int32.ofInt a_3)), some (.int (Int32.ofInt b_4)), some (.int (Int32.ofInt v_12)), some (.int (Int32.ofInt 12)), some (.int (Int32.ofInt (i_2 : Int))), w5]) (st' := [.int (Int32.ofInt 3), .int (Int32.ofInt v_12)]) (σ' := (zN L X (zhi s) R G nc ns)) (fun n => rfl) ?_
        have J16 : ∀ (v15 : Int), (v_12 = 3 ∧ v15 = (a_3 * 3)) ∨ (¬ v_12 = 3 ∧ ¬ v_12 = 4 ∧ v_12 = 6 ∧ v15 = (a_3 * 2)) ∨ (¬ v_12 = 3 ∧ ¬ v_12 = 4 ∧ ¬ v_12 = 6 ∧ ¬ v_12 = 5 ∧ v15 = a_3) ∨ (¬ v_12 = 3 ∧ ¬ v_12 = 4 ∧ ¬ v_12 = 6 ∧ v_12 = 5 ∧ v15 = (a_3 * 2)) ∨ (¬ v_12 = 3 ∧ v_12 = 4 ∧ v15 = (a_3 * 3)) → zW ro 44 124 [some (.ref 7), some (.int (Int32.ofInt x)), some (.int (Int32.ofInt y)), some (.int (Int32.ofInt v15)), some (.int (Int32.ofInt b_4)), some (.int (Int32.ofInt v_12)), some (.int (Int32.ofInt 12)), some (.int (Int32.ofInt (i_2 : Int))), w5] [] (zN L X (zhi s) R G nc ns) Q := by
          intro v15 c17
          refine zW.run 1 (pc' := 126) (ls' := [some (.ref 7), some (.int (Int32.ofInt x)), some (.int (Int32.ofInt y)), some (.int (Int32.ofInt v15)), some (.int (Int32.ofInt b_4)), some (.int (Int32.ofInt v_12)), some (.int (Int32.ofInt 12)), some (.int (Int32.ofInt (i_2 : Int))), w5]) (st' := [.int (Int32.ofInt b_4)]) (σ' := (zN L X (zhi s) R G nc ns)) (fun n => rfl) ?_
          refine zW.jif_eq rfl (by omega) (fun c18 => ?_) (fun c18 => ?_)
          · skip
            refine zW.run 1 (pc' := 138) (ls' := [some (.ref 7), some (.int (Int32.ofInt x)), some (.int (Int32.ofInt y)), some (.int (Int32.ofInt v15)), some (.int (Int32.ofInt b_4)), some (.int (Int32.ofInt v_12)), some (.int (Int32.ofInt 12)), some (.int (Int32.ofInt (i_2 : Int))), w5]) (st' := [.int (Int32.ofInt v15)]) (σ' := (zN L X (zhi s) R G nc ns)) (fun n => rfl) ?_
            exact zW.jret rfl rfl (hQ0 (Int32.ofInt v15))
          · skip
            refine zW.run 2 (pc' := 131) (ls' := [some (.ref 7), some (.int (Int32.ofInt x)), some (.int (Int32.ofInt y)), some (.int (Int32.ofInt v15)), some (.int (Int32.ofInt b_4)), some (.int (Int32.ofInt v_12)), some (.int (Int32.ofInt 12)), some (.int (Int32.ofInt (i_2 : Int))), w5]) (st' := [.int (Int32.ofInt 3), .int (Int32.ofInt v15)]) (σ' := (zN L X (zhi s) R G nc ns)) (fun n => rfl) ?_
            refine zW.jmul rfl ?_
            refine zW.run 1 (pc' := 133) (ls' := [some (.ref 7), some (.int (Int32.ofInt x)), some (.int (Int32.ofInt y)), some (.int (Int32.ofInt v15)), some (.int (Int32.ofInt b_4)), some (.int (Int32.ofInt v_12)), some (.int (Int32.ofInt 12)), some (.int (Int32.ofInt (i_2 : Int))), w5]) (st' := [.int (Int32.ofInt 2), .int (Int32.ofInt (v15 * 3))]) (σ' := (zN L X (zhi s) R G nc ns)) (fun n => rfl) ?_
            refine zW.idiv rfl (by decide) ?_
            refine zW.run 1 (pc' := 138) (ls' := [some (.ref 7), some (.int (Int32.ofInt x)), some (.int (Int32.ofInt y)), some (.int (Int32.ofInt v15)), some (.int (Int32.ofInt b_4)), some (.int (Int32.ofInt v_12)), some (.int (Int32.ofInt 12)), some (.int (Int32.ofInt (i_2 : Int))), w5]) (st' := [.int ((Int32.ofInt (v15 * 3)) / (Int32.ofInt 2))]) (σ' := (zN L X (zhi s) R G nc ns)) (fun n => rfl) ?_
            exact zW.iret rfl rfl rfl (hQ0 ((Int32.ofInt (v15 * 3)) / (Int32.ofInt 2)))
        refine zW.jcmp_eq rfl (by omega) (fun c19 => ?_) (fun c19 => ?_)
        · skip
          refine zW.run 2 (pc' := 102) (ls' := [some (.ref 7), some (.int (Int32.ofInt x)), some (.int (Int32.ofInt y)), some (.int (Int32.ofInt a_3)), some (.int (Int32.ofInt b_4)), some (.int (Int32.ofInt v_12)), some (.int (Int32.ofInt 12)), some (.int (Int32.ofInt (i_2 : Int))), w5]) (st' := [.int (Int32.ofInt 3), .int (Int32.ofInt a_3)]) (σ' := (zN L X (zhi s) R G nc ns)) (fun n => rfl) ?_
          refine zW.jmul rfl ?_
          refine zW.run 2 (pc' := 124) (ls' := [some (.ref 7), some (.int (Int32.ofInt x)), some (.int (Int32.ofInt y)), some (.int (Int32.ofInt (a_3 * 3))), some (.int (Int32.ofInt b_4)), some (.int (Int32.ofInt v_12)), some (.int (Int32.ofInt 12)), some (.int (Int32.ofInt (i_2 : Int))), w5]) (st' := []) (σ' := (zN L X (zhi s) R G nc ns)) (fun n => rfl) ?_
          exact J16 (a_3 * 3) (by omega)
        · skip
          refine zW.run 2 (pc' := 97) (ls' := [some (.ref 7), some (.int (Int32.ofInt x)), some (.int (Int32.ofInt y)), some (.int (Int32.ofInt a_3)), some (.int (Int32.ofInt b_4)), some (.int (Int32.ofInt v_12)), some (.int (Int32.ofInt 12)), some (.int (Int32.ofInt (i_2 : Int))), w5]) (st' := [.int (Int32.ofInt 4), .int (Int32.ofInt v_12)]) (σ' := (zN L X (zhi s) R G nc ns)) (fun n => rfl) ?_
          refine zW.jcmp_ne rfl (by omega) (fun c20 => ?_) (fun c20 => ?_)
          · skip
            refine zW.run 2 (pc' := 111) (ls' := [some (.ref 7), some (.int (Int32.ofInt x)), some (.int (Int32.ofInt y)), some (.int (Int32.ofInt a_3)), some (.int (Int32.ofInt b_4)), some (.int (Int32.ofInt v_12)), some (.int (Int32.ofInt 12)), some (.int (Int32.ofInt (i_2 : Int))), w5]) (st' := [.int (Int32.ofInt 6), .int (Int32.ofInt v_12)]) (σ' := (zN L X (zhi s) R G nc ns)) (fun n => rfl) ?_
            refine zW.jcmp_eq rfl (by omega) (fun c21 => ?_) (fun c21 => ?_)
            · skip
              refine zW.run 2 (pc' := 122) (ls' := [some (.ref 7), some (.int (Int32.ofInt x)), some (.int (Int32.ofInt y)), some (.int (Int32.ofInt a_3)), some (.int (Int32.ofInt b_4)), some (.int (Int32.ofInt v_12)), some (.int (Int32.ofInt 12)), some (.int (Int32.ofInt (i_2 : Int))), w5]) (st' := [.int (Int32.ofInt 2), .int (Int32.ofInt a_3)]) (σ' := (zN L X (zhi s) R G nc ns)) (fun n => rfl) ?_
              refine zW.jmul rfl ?_
              refine zW.run 1 (pc' := 124) (ls' := [some (.ref 7), some (.int (Int32.ofInt x)), some (.int (Int32.ofInt y)), some (.int (Int32.ofInt (a_3 * 2))), some (.int (Int32.ofInt b_4)), some (.int (Int32.ofInt v_12)), some (.int (Int32.ofInt 12)), some (.int (Int32.ofInt (i_2 : Int))), w5]) (st' := []) (σ' := (zN L X (zhi s) R G nc ns)) (fun n => rfl) ?_
              exact J16 (a_3 * 2) (by omega)
            · skip
              refine zW.run 2 (pc' := 117) (ls' := [some (.ref 7), some (.int (Int32.ofInt x)), some (.int (Int32.ofInt y)), some (.int (Int32.ofInt a_3)), some (.int (Int32.ofInt b_4)), some (.int (Int32.ofInt v_12)), some (.int (Int32.ofInt 12)), some (.int (Int32.ofInt (i_2 : Int))), w5]) (st' := [.int (Int32.ofInt 5), .int (Int32.ofInt v_12)]) (σ' := (zN L X (zhi s) R G nc ns)) (fun n => rfl) ?_
              refine zW.jcmp_ne rfl (by omega) (fun c22 => ?_) (fun c22 => ?_)
              · skip
                exact J16 a_3 (by omega)
              · skip
                refine zW.run 2 (pc' := 122) (ls' := [some (.ref 7), some (.int (Int32.ofInt x)), some (.int (Int32.ofInt y)), some (.int (Int32.ofInt a_3)), some (.int (Int32.ofInt b_4)), some (.int (Int32.ofInt v_12)), some (.int (Int32.ofInt 12)), some (.int (Int32.ofInt (i_2 : Int))), w5]) (st' := [.int (Int32.ofInt 2), .int (Int32.ofInt a_3)]) (σ' := (zN L X (zhi s) R G nc ns)) (fun n => rfl) ?_
                refine zW.jmul rfl ?_
                refine zW.run 1 (pc' := 124) (ls' := [some (.ref 7), some (.int (Int32.ofInt x)), some (.int (Int32.ofInt y)), some (.int (Int32.ofInt (a_3 * 2))), some (.int (Int32.ofInt b_4)), some (.int (Int32.ofInt v_12)), some (.int (Int32.ofInt 12)), some (.int (Int32.ofInt (i_2 : Int))), w5]) (st' := []) (σ' := (zN L X (zhi s) R G nc ns)) (fun n => rfl) ?_
                exact J16 (a_3 * 2) (by omega)
          · skip
            refine zW.run 2 (pc' := 102) (ls' := [some (.ref 7), some (.int (Int32.ofInt x)), some (.int (Int32.ofInt y)), some (.int (Int32.ofInt a_3)), some (.int (Int32.ofInt b_4)), some (.int (Int32.ofInt v_12)), some (.int (Int32.ofInt 12)), some (.int (Int32.ofInt (i_2 : Int))), w5]) (st' := [.int (Int32.ofInt 3), .int (Int32.ofInt a_3)]) (σ' := (zN L X (zhi s) R G nc ns)) (fun n => rfl) ?_
            refine zW.jmul rfl ?_
            refine zW.run 2 (pc' := 124) (ls' := [some (.ref 7), some (.int (Int32.ofInt x)), some (.int (Int32.ofInt y)), some (.int (Int32.ofInt (a_3 * 3))), some (.int (Int32.ofInt b_4)), some (.int (Int32.ofInt v_12)), some (.int (Int32.ofInt 12)), some (.int (Int32.ofInt (i_2 : Int))), w5]) (st' := []) (σ' := (zN L X (zhi s) R G nc ns)) (fun n => rfl) ?_
            exact J16 (a_3 * 3) (by omega)
      · skip
        refine zW.run 2 (pc' := 30) (ls' := [some (.ref 7), some (.int (Int32.ofInt x)), some (.int (Int32.ofInt y)), some (.int (Int32.ofInt a_3)), some (.int (Int32.ofInt b_4)), some (.ref 19), some (.int (Int32.ofInt 12)), some (.int (Int32.ofInt (i_2 : Int))), w5]) (st' := [.int (Int32.ofInt (i_2 : Int)), .ref 19]) (σ' := (zN L X (zhi s) R G nc ns)) (fun n => rfl) ?_
        refine zW.jaald (n := 12) (v := .ref (42 + i_2)) rfl rfl (by decide) (by decide) (by omega) (zr_com S (by omega)) ?_
        refine zW.run 4 (pc' := 37) (ls' := [some (.ref 7), some (.int (Int32.ofInt x)), some (.int (Int32.ofInt y)), some (.int (Int32.ofInt a_3)), some (.int (Int32.ofInt b_4)), some (.ref 19), some (.int (Int32.ofInt 12)), some (.int (Int32.ofInt (i_2 : Int))), some (.ref (42 + i_2))]) (st' := [.int (Int32.ofInt y), .int (Int32.ofInt x), .ref (42 + i_2)]) (σ' := (zN L X (zhi s) R G nc ns)) (fun n => rfl) ?_
        refine zW.callV rfl (by decide) rfl rfl rfl rfl (zk_com (by omega)) (Nat.le_of_ble_eq_true rfl) ?_
        refine t_Company_isAt_w S V (i := i_2) (x := x) (y := y) (by omega) (by omega) (by omega) (fun f23 f24 f25 => ?_) ?_
        · skip
          show zW ro 44 40 [some (.ref 7), some (.int (Int32.ofInt x)), some (.int (Int32.ofInt y)), some (.int (Int32.ofInt a_3)), some (.int (Int32.ofInt b_4)), some (.ref 19), some (.int (Int32.ofInt 12)), some (.int (Int32.ofInt (i_2 : Int))), some (.ref (42 + i_2))] [.int (Int32.ofInt 1)] (zN L X (zhi s) R G nc ns) Q
          refine zW.run 4 (pc' := 47) (ls' := [some (.ref 7), some (.int (Int32.ofInt x)), some (.int (Int32.ofInt y)), some (.int (Int32.ofInt a_3)), some (.int (Int32.ofInt b_4)), some (.ref 19), some (.int (Int32.ofInt 12)), some (.int (Int32.ofInt (i_2 : Int))), some (.ref (42 + i_2))]) (st' := [.ref (42 + i_2), .ref 7, .int (Int32.ofInt a_3)]) (σ' := (zN L X (zhi s) R G nc ns)) (fun n => rfl) ?_
          refine zW.callV rfl (by decide) rfl rfl rfl rfl rfl (Nat.le_of_ble_eq_true rfl) ?_
          refine t_Siege_forceOf S V (i := i_2) (by omega) (fun o_26 v_27 f28 f29 f30 => ?_)
          show zW ro 44 50 [some (.ref 7), some (.int (Int32.ofInt x)), some (.int (Int32.ofInt y)), some (.int (Int32.ofInt a_3)), some (.int (Int32.ofInt b_4)), some (.ref 19), some (.int (Int32.ofInt 12)), some (.int (Int32.ofInt (i_2 : Int))), some (.ref (42 + i_2))] [.int (Int32.ofInt v_27), .int (Int32.ofInt a_3)] (zN L X (zhi s) R G nc ns) Q
          refine zW.jadd rfl ?_
          refine zW.run 2 (pc' := 54) (ls' := [some (.ref 7), some (.int (Int32.ofInt x)), some (.int (Int32.ofInt y)), some (.int (Int32.ofInt (a_3 + v_27))), some (.int (Int32.ofInt b_4)), some (.ref 19), some (.int (Int32.ofInt 12)), some (.int (Int32.ofInt (i_2 : Int))), some (.ref (42 + i_2))]) (st' := [.int (Int32.ofInt b_4)]) (σ' := (zN L X (zhi s) R G nc ns)) (fun n => rfl) ?_
          refine zW.jif_ne rfl (by omega) (fun c31 => ?_) (fun c31 => ?_)
          · skip
            refine zW.run 3 (pc' := 72) (ls' := [some (.ref 7), some (.int (Int32.ofInt x)), some (.int (Int32.ofInt y)), some (.int (Int32.ofInt (a_3 + v_27))), some (.int (Int32.ofInt 1)), some (.ref 19), some (.int (Int32.ofInt 12)), some (.int (Int32.ofInt (i_2 : Int))), some (.ref (42 + i_2))]) (st' := []) (σ' := (zN L X (zhi s) R G nc ns)) (fun n => rfl) ?_
            refine zW.jinc (ls' := [some (.ref 7), some (.int (Int32.ofInt x)), some (.int (Int32.ofInt y)), some (.int (Int32.ofInt (a_3 + v_27))), some (.int (Int32.ofInt 1)), some (.ref 19), some (.int (Int32.ofInt 12)), some (.int (Int32.ofInt ((i_2 : Int) + 1))), some (.ref (42 + i_2))]) rfl (Nat.le_of_ble_eq_true rfl) rfl rfl ?_
            refine zW.run 1 (pc' := 19) (ls' := [some (.ref 7), some (.int (Int32.ofInt x)), some (.int (Int32.ofInt y)), some (.int (Int32.ofInt (a_3 + v_27))), some (.int (Int32.ofInt 1)), some (.ref 19), some (.int (Int32.ofInt 12)), some (.int (Int32.ofInt ((i_2 : Int) + 1))), some (.ref (42 + i_2))]) (st' := []) (σ' := (zN L X (zhi s) R G nc ns)) (fun n => rfl) ?_
            exact ih9 (i_2 + 1) (a_3 + v_27) 1 (some (.ref (42 + i_2))) (by omega) (by omega) (by omega)
          · skip
            refine zW.run 1 (pc' := 59) (ls' := [some (.ref 7), some (.int (Int32.ofInt x)), some (.int (Int32.ofInt y)), some (.int (Int32.ofInt (a_3 + v_27))), some (.int (Int32.ofInt b_4)), some (.ref 19), some (.int (Int32.ofInt 12)), some (.int (Int32.ofInt (i_2 : Int))), some (.ref (42 + i_2))]) (st' := [.ref (42 + i_2)]) (σ' := (zN L X (zhi s) R G nc ns)) (fun n => rfl) ?_
            refine zW.callV rfl (by decide) rfl rfl rfl rfl (zk_com (by omega)) (Nat.le_of_ble_eq_true rfl) ?_
            refine t_Company_isOnGuard S V (i := i_2) (by omega) ?_ ?_
            · skip
              show zW ro 44 62 [some (.ref 7), some (.int (Int32.ofInt x)), some (.int (Int32.ofInt y)), some (.int (Int32.ofInt (a_3 + v_27))), some (.int (Int32.ofInt b_4)), some (.ref 19), some (.int (Int32.ofInt 12)), some (.int (Int32.ofInt (i_2 : Int))), some (.ref (42 + i_2))] [.int (Int32.ofInt 1)] (zN L X (zhi s) R G nc ns) Q
              refine zW.run 4 (pc' := 72) (ls' := [some (.ref 7), some (.int (Int32.ofInt x)), some (.int (Int32.ofInt y)), some (.int (Int32.ofInt (a_3 + v_27))), some (.int (Int32.ofInt 1)), some (.ref 19), some (.int (Int32.ofInt 12)), some (.int (Int32.ofInt (i_2 : Int))), some (.ref (42 + i_2))]) (st' := []) (σ' := (zN L X (zhi s) R G nc ns)) (fun n => rfl) ?_
              refine zW.jinc (ls' := [some (.ref 7), some (.int (Int32.ofInt x)), some (.int (Int32.ofInt y)), some (.int (Int32.ofInt (a_3 + v_27))), some (.int (Int32.ofInt 1)), some (.ref 19), some (.int (Int32.ofInt 12)), some (.int (Int32.ofInt ((i_2 : Int) + 1))), some (.ref (42 + i_2))]) rfl (Nat.le_of_ble_eq_true rfl) rfl rfl ?_
              refine zW.run 1 (pc' := 19) (ls' := [some (.ref 7), some (.int (Int32.ofInt x)), some (.int (Int32.ofInt y)), some (.int (Int32.ofInt (a_3 + v_27))), some (.int (Int32.ofInt 1)), some (.ref 19), some (.int (Int32.ofInt 12)), some (.int (Int32.ofInt ((i_2 : Int) + 1))), some (.ref (42 + i_2))]) (st' := []) (σ' := (zN L X (zhi s) R G nc ns)) (fun n => rfl) ?_
              exact ih9 (i_2 + 1) (a_3 + v_27) 1 (some (.ref (42 + i_2))) (by omega) (by omega) (by omega)
            · skip
              show zW ro 44 62 [some (.ref 7), some (.int (Int32.ofInt x)), some (.int (Int32.ofInt y)), some (.int (Int32.ofInt (a_3 + v_27))), some (.int (Int32.ofInt b_4)), some (.ref 19), some (.int (Int32.ofInt 12)), some (.int (Int32.ofInt (i_2 : Int))), some (.ref (42 + i_2))] [.int (Int32.ofInt 0)] (zN L X (zhi s) R G nc ns) Q
              refine zW.run 3 (pc' := 72) (ls' := [some (.ref 7), some (.int (Int32.ofInt x)), some (.int (Int32.ofInt y)), some (.int (Int32.ofInt (a_3 + v_27))), some (.int (Int32.ofInt 0)), some (.ref 19), some (.int (Int32.ofInt 12)), some (.int (Int32.ofInt (i_2 : Int))), some (.ref (42 + i_2))]) (st' := []) (σ' := (zN L X (zhi s) R G nc ns)) (fun n => rfl) ?_
              refine zW.jinc (ls' := [some (.ref 7), some (.int (Int32.ofInt x)), some (.int (Int32.ofInt y)), some (.int (Int32.ofInt (a_3 + v_27))), some (.int (Int32.ofInt 0)), some (.ref 19), some (.int (Int32.ofInt 12)), some (.int (Int32.ofInt ((i_2 : Int) + 1))), some (.ref (42 + i_2))]) rfl (Nat.le_of_ble_eq_true rfl) rfl rfl ?_
              refine zW.run 1 (pc' := 19) (ls' := [some (.ref 7), some (.int (Int32.ofInt x)), some (.int (Int32.ofInt y)), some (.int (Int32.ofInt (a_3 + v_27))), some (.int (Int32.ofInt 0)), some (.ref 19), some (.int (Int32.ofInt 12)), some (.int (Int32.ofInt ((i_2 : Int) + 1))), some (.ref (42 + i_2))]) (st' := []) (σ' := (zN L X (zhi s) R G nc ns)) (fun n => rfl) ?_
              exact ih9 (i_2 + 1) (a_3 + v_27) 0 (some (.ref (42 + i_2))) (by omega) (by omega) (by omega)
        · skip
          show zW ro 44 40 [some (.ref 7), some (.int (Int32.ofInt x)), some (.int (Int32.ofInt y)), some (.int (Int32.ofInt a_3)), some (.int (Int32.ofInt b_4)), some (.ref 19), some (.int (Int32.ofInt 12)), some (.int (Int32.ofInt (i_2 : Int))), some (.ref (42 + i_2))] [.int (Int32.ofInt 0)] (zN L X (zhi s) R G nc ns) Q
          refine zW.run 1 (pc' := 72) (ls' := [some (.ref 7), some (.int (Int32.ofInt x)), some (.int (Int32.ofInt y)), some (.int (Int32.ofInt a_3)), some (.int (Int32.ofInt b_4)), some (.ref 19), some (.int (Int32.ofInt 12)), some (.int (Int32.ofInt (i_2 : Int))), some (.ref (42 + i_2))]) (st' := []) (σ' := (zN L X (zhi s) R G nc ns)) (fun n => rfl) ?_
          refine zW.jinc (ls' := [some (.ref 7), some (.int (Int32.ofInt x)), some (.int (Int32.ofInt y)), some (.int (Int32.ofInt a_3)), some (.int (Int32.ofInt b_4)), some (.ref 19), some (.int (Int32.ofInt 12)), some (.int (Int32.ofInt ((i_2 : Int) + 1))), some (.ref (42 + i_2))]) rfl (Nat.le_of_ble_eq_true rfl) rfl rfl ?_
          refine zW.run 1 (pc' := 19) (ls' := [some (.ref 7), some (.int (Int32.ofInt x)), some (.int (Int32.ofInt y)), some (.int (Int32.ofInt a_3)), some (.int (Int32.ofInt b_4)), some (.ref 19), some (.int (Int32.ofInt 12)), some (.int (Int32.ofInt ((i_2 : Int) + 1))), some (.ref (42 + i_2))]) (st' := []) (σ' := (zN L X (zhi s) R G nc ns)) (fun n => rfl) ?_
          exact ih9 (i_2 + 1) a_3 b_4 (some (.ref (42 + i_2))) (by omega) (by omega) (by omega)
  exact J8 _ 0 0 0 none (by omega) (by omega) (Nat.lt_succ_self _)
set_option maxHeartbeats 4000000 in
theorem t_Duties_attackOf (S : zSR R) (V : zV g U F T B ph s) {i : Nat} (p0 : i < 12) (hQ0 : ∀ (v : Int32), Q (.inl (some (.int v))) (zN L X (zhi s) R G nc ns)) : zW ro 40 0 (zfst [.ref 7, .ref (42 + i)] 3) [] (zN L X (zhi s) R G nc ns) Q := by
  show zW ro 40 0 [some (.ref 7), some (.ref (42 + i)), none] [] (zN L X (zhi s) R G nc ns) Q
  have f1 := zA_geo (zV_zA V)
  have hB0 := zV_B V
  refine zW.run 2 (pc' := 2) (ls' := [some (.ref 7), some (.ref (42 + i)), none]) (st' := [.ref (42 + i), .ref 7]) (σ' := (zN L X (zhi s) R G nc ns)) (fun n => rfl) ?_
  refine zW.callV rfl (by decide) rfl rfl rfl rfl rfl (Nat.le_of_ble_eq_true rfl) ?_
  refine t_Siege_forceOf S V (i := i) (by omega) (fun o_2 v_3 f4 f5 f6 => ?_)
  show zW ro 40 5 [some (.ref 7), some (.ref (42 + i)), none] [.int (Int32.ofInt v_3)] (zN L X (zhi s) R G nc ns) Q
  refine zW.run 2 (pc' := 7) (ls' := [some (.ref 7), some (.ref (42 + i)), some (.int (Int32.ofInt v_3))]) (st' := [.ref 7]) (σ' := (zN L X (zhi s) R G nc ns)) (fun n => rfl) ?_
  refine zW.callV rfl (by decide) rfl rfl rfl rfl rfl (Nat.le_of_ble_eq_true rfl) ?_
  refine t_Siege_isNight S V ?_ ?_
  · skip
    show zW ro 40 10 [some (.ref 7), some (.ref (42 + i)), some (.int (Int32.ofInt v_3))] [.int (Int32.ofInt 1)] (zN L X (zhi s) R G nc ns) Q
    refine zW.run 3 (pc' := 15) (ls' := [some (.ref 7), some (.ref (42 + i)), some (.int (Int32.ofInt v_3))]) (st' := [.int (Int32.ofInt 5), .int (Int32.ofInt v_3)]) (σ' := (zN L X (zhi s) R G nc ns)) (fun n => rfl) ?_
    refine zW.jmul rfl ?_
    refine zW.run 1 (pc' := 17) (ls' := [some (.ref 7), some (.ref (42 + i)), some (.int (Int32.ofInt v_3))]) (st' := [.int (Int32.ofInt 4), .int (Int32.ofInt (v_3 * 5))]) (σ' := (zN L X (zhi s) R G nc ns)) (fun n => rfl) ?_
    refine zW.idiv rfl (by decide) ?_
    refine zW.run 1 (pc' := 22) (ls' := [some (.ref 7), some (.ref (42 + i)), some (.int (Int32.ofInt v_3))]) (st' := [.int ((Int32.ofInt (v_3 * 5)) / (Int32.ofInt 4))]) (σ' := (zN L X (zhi s) R G nc ns)) (fun n => rfl) ?_
    exact zW.iret rfl rfl rfl (hQ0 ((Int32.ofInt (v_3 * 5)) / (Int32.ofInt 4)))
  · skip
    show zW ro 40 10 [some (.ref 7), some (.ref (42 + i)), some (.int (Int32.ofInt v_3))] [.int (Int32.ofInt 0)] (zN L X (zhi s) R G nc ns) Q
    refine zW.run 2 (pc' := 22) (ls' := [some (.ref 7), some (.ref (42 + i)), some (.int (Int32.ofInt v_3))]) (st' := [.int (Int32.ofInt v_3)]) (σ' := (zN L X (zhi s) R G nc ns)) (fun n => rfl) ?_
    exact zW.jret rfl rfl (hQ0 (Int32.ofInt v_3))
set_option maxHeartbeats 4000000 in
theorem t_Duties_refugeFrom (S : zSR R) (V : zV g U F T B ph s) {x : Int} {y : Int} (p0 : -1 ≤ x ∧ x ≤ 2) (p1 : -2147483648 ≤ y ∧ y < 2147483648) (hQ0 : ∀ (v : Int), -1 ≤ v ∧ v < g 2 → Q (.inl (some (.int (Int32.ofInt v)))) (zN L X (zhi s) R G nc ns)) : zW ro 53 0 (zfst [.ref 7, .int (Int32.ofInt x), .int (Int32.ofInt y)] 8) [] (zN L X (zhi s) R G nc ns) Q := by
  show zW ro 53 0 [some (.ref 7), some (.int (Int32.ofInt x)), some (.int (Int32.ofInt y)), none, none, none, none, none] [] (zN L X (zhi s) R G nc ns) Q
  have f1 := zA_geo (zV_zA V)
  have hB0 := zV_B V
  refine zW.run 3 (pc' := 5) (ls' := [some (.ref 7), some (.int (Int32.ofInt x)), some (.int (Int32.ofInt y)), some (.ref 0), none, none, none, none]) (st' := [.ref 0]) (σ' := (zN L X (zhi s) R G nc ns)) (fun n => rfl) ?_
  refine zW.alen rfl rfl (by decide) ?_
  show zW ro 53 6 [some (.ref 7), some (.int (Int32.ofInt x)), some (.int (Int32.ofInt y)), some (.ref 0), none, none, none, none] [.int (Int32.ofInt 4)] (zN L X (zhi s) R G nc ns) Q
  refine zW.run 3 (pc' := 11) (ls' := [some (.ref 7), some (.int (Int32.ofInt x)), some (.int (Int32.ofInt y)), some (.ref 0), some (.int (Int32.ofInt 4)), some (.int (Int32.ofInt 0)), none, none]) (st' := []) (σ' := (zN L X (zhi s) R G nc ns)) (fun n => rfl) ?_
  have J6 : ∀ m : Nat, ∀ (i_2 : Nat) (w3 : Option Value) (w4 : Option Value), i_2 ≤ 4 → 5 - i_2 < m → zW ro 53 11 [some (.ref 7), some (.int (Int32.ofInt x)), some (.int (Int32.ofInt y)), some (.ref 0), some (.int (Int32.ofInt 4)), some (.int (Int32.ofInt (i_2 : Int))), w3, w4] [] (zN L X (zhi s) R G nc ns) Q := by
    intro m
    induction m with
    | zero => intros; omega
    | succ m ih7 =>
      intro i_2 w3 w4 c5 hm8
      refine zW.run 2 (pc' := 15) (ls' := [some (.ref 7), some (.int (Int32.ofInt x)), some (.int (Int32.ofInt y)), some (.ref 0), some (.int (Int32.ofInt 4)), some (.int (Int32.ofInt (i_2 : Int))), w3, w4]) (st' := [.int (Int32.ofInt 4), .int (Int32.ofInt (i_2 : Int))]) (σ' := (zN L X (zhi s) R G nc ns)) (fun n => rfl) ?_
      refine zW.jcmp_ge rfl (by omega) (fun c9 => ?_) (fun c9 => ?_)
      · skip
        refine zW.run 1 (pc' := 77) (ls' := [some (.ref 7), some (.int (Int32.ofInt x)), some (.int (Int32.ofInt y)), some (.ref 0), some (.int (Int32.ofInt 4)), some (.int (Int32.ofInt (i_2 : Int))), w3, w4]) (st' := [.int (Int32.ofInt (-1))]) (σ' := (zN L X (zhi s) R G nc ns)) (fun n => rfl) ?_
        exact zW.jret rfl rfl (hQ0 (-1) (by omega))
      · skip
        refine zW.run 2 (pc' := 21) (ls' := [some (.ref 7), some (.int (Int32.ofInt x)), some (.int (Int32.ofInt y)), some (.ref 0), some (.int (Int32.ofInt 4)), some (.int (Int32.ofInt (i_2 : Int))), w3, w4]) (st' := [.int (Int32.ofInt (i_2 : Int)), .ref 0]) (σ' := (zN L X (zhi s) R G nc ns)) (fun n => rfl) ?_
        refine zW.jals (n := 4) (v := (s 0 i_2)) rfl rfl (by decide) (by omega) rfl ?_
        have f10 := zA_st (zV_zA V) (p := 0) (k := i_2) (by omega) (by omega)
        refine zW.run 2 (pc' := 25) (ls' := [some (.ref 7), some (.int (Int32.ofInt x)), some (.int (Int32.ofInt y)), some (.ref 0), some (.int (Int32.ofInt 4)), some (.int (Int32.ofInt (i_2 : Int))), some (.int (Int32.ofInt (s 0 i_2))), w4]) (st' := [.ref 7]) (σ' := (zN L X (zhi s) R G nc ns)) (fun n => rfl) ?_
        refine zW.getf (v := .ref 8) rfl rfl (zr_7_0 S) ?_
        refine zW.run 2 (pc' := 31) (ls' := [some (.ref 7), some (.int (Int32.ofInt x)), some (.int (Int32.ofInt y)), some (.ref 0), some (.int (Int32.ofInt 4)), some (.int (Int32.ofInt (i_2 : Int))), some (.int (Int32.ofInt (s 0 i_2))), w4]) (st' := [.int (Int32.ofInt (s 0 i_2)), .int (Int32.ofInt y), .ref 8]) (σ' := (zN L X (zhi s) R G nc ns)) (fun n => rfl) ?_
        refine zW.callV rfl (by decide) rfl rfl rfl rfl rfl (Nat.le_of_ble_eq_true rfl) ?_
        refine t_Ground_next S (zV_zA V) (x := y) (d := (s 0 i_2)) (by omega) (by omega) (fun v_11 f12 => ?_)
        show zW ro 53 34 [some (.ref 7), some (.int (Int32.ofInt x)), some (.int (Int32.ofInt y)), some (.ref 0), some (.int (Int32.ofInt 4)), some (.int (Int32.ofInt (i_2 : Int))), some (.int (Int32.ofInt (s 0 i_2))), w4] [.int (Int32.ofInt v_11)] (zN L X (zhi s) R G nc ns) Q
        refine zW.run 3 (pc' := 39) (ls' := [some (.ref 7), some (.int (Int32.ofInt x)), some (.int (Int32.ofInt y)), some (.ref 0), some (.int (Int32.ofInt 4)), some (.int (Int32.ofInt (i_2 : Int))), some (.int (Int32.ofInt (s 0 i_2))), some (.int (Int32.ofInt v_11))]) (st' := [.int (Int32.ofInt (-1)), .int (Int32.ofInt v_11)]) (σ' := (zN L X (zhi s) R G nc ns)) (fun n => rfl) ?_
        refine zW.jcmp_eq rfl (by omega) (fun c13 => ?_) (fun c13 => ?_)
        · skip
          refine zW.jinc (ls' := [some (.ref 7), some (.int (Int32.ofInt x)), some (.int (Int32.ofInt y)), some (.ref 0), some (.int (Int32.ofInt 4)), some (.int (Int32.ofInt ((i_2 : Int) + 1))), some (.int (Int32.ofInt (s 0 i_2))), some (.int (Int32.ofInt v_11))]) rfl (Nat.le_of_ble_eq_true rfl) rfl rfl ?_
          refine zW.run 1 (pc' := 11) (ls' := [some (.ref 7), some (.int (Int32.ofInt x)), some (.int (Int32.ofInt y)), some (.ref 0), some (.int (Int32.ofInt 4)), some (.int (Int32.ofInt ((i_2 : Int) + 1))), some (.int (Int32.ofInt (s 0 i_2))), some (.int (Int32.ofInt v_11))]) (st' := []) (σ' := (zN L X (zhi s) R G nc ns)) (fun n => rfl) ?_
          exact ih7 (i_2 + 1) (some (.int (Int32.ofInt (s 0 i_2)))) (some (.int (Int32.ofInt v_11))) (by omega) (by omega)
        · skip
          refine zW.run 1 (pc' := 43) (ls' := [some (.ref 7), some (.int (Int32.ofInt x)), some (.int (Int32.ofInt y)), some (.ref 0), some (.int (Int32.ofInt 4)), some (.int (Int32.ofInt (i_2 : Int))), some (.int (Int32.ofInt (s 0 i_2))), some (.int (Int32.ofInt v_11))]) (st' := [.ref 7]) (σ' := (zN L X (zhi s) R G nc ns)) (fun n => rfl) ?_
          refine zW.getf (v := .ref 8) rfl rfl (zr_7_0 S) ?_
          refine zW.run 1 (pc' := 48) (ls' := [some (.ref 7), some (.int (Int32.ofInt x)), some (.int (Int32.ofInt y)), some (.ref 0), some (.int (Int32.ofInt 4)), some (.int (Int32.ofInt (i_2 : Int))), some (.int (Int32.ofInt (s 0 i_2))), some (.int (Int32.ofInt v_11))]) (st' := [.int (Int32.ofInt v_11), .ref 8]) (σ' := (zN L X (zhi s) R G nc ns)) (fun n => rfl) ?_
          refine zW.callV rfl (by decide) rfl rfl rfl rfl rfl (Nat.le_of_ble_eq_true rfl) ?_
          refine t_Ground_belongsTo S V (x := v_11) (by omega) (fun v_14 f15 => ?_)
          show zW ro 53 51 [some (.ref 7), some (.int (Int32.ofInt x)), some (.int (Int32.ofInt y)), some (.ref 0), some (.int (Int32.ofInt 4)), some (.int (Int32.ofInt (i_2 : Int))), some (.int (Int32.ofInt (s 0 i_2))), some (.int (Int32.ofInt v_11))] [.int (Int32.ofInt v_14)] (zN L X (zhi s) R G nc ns) Q
          refine zW.run 1 (pc' := 52) (ls' := [some (.ref 7), some (.int (Int32.ofInt x)), some (.int (Int32.ofInt y)), some (.ref 0), some (.int (Int32.ofInt 4)), some (.int (Int32.ofInt (i_2 : Int))), some (.int (Int32.ofInt (s 0 i_2))), some (.int (Int32.ofInt v_11))]) (st' := [.int (Int32.ofInt x), .int (Int32.ofInt v_14)]) (σ' := (zN L X (zhi s) R G nc ns)) (fun n => rfl) ?_
          refine zW.jcmp_ne rfl (by omega) (fun c16 => ?_) (fun c16 => ?_)
          · skip
            refine zW.jinc (ls' := [some (.ref 7), some (.int (Int32.ofInt x)), some (.int (Int32.ofInt y)), some (.ref 0), some (.int (Int32.ofInt 4)), some (.int (Int32.ofInt ((i_2 : Int) + 1))), some (.int (Int32.ofInt (s 0 i_2))), some (.int (Int32.ofInt v_11))]) rfl (Nat.le_of_ble_eq_true rfl) rfl rfl ?_
            refine zW.run 1 (pc' := 11) (ls' := [some (.ref 7), some (.int (Int32.ofInt x)), some (.int (Int32.ofInt y)), some (.ref 0), some (.int (Int32.ofInt 4)), some (.int (Int32.ofInt ((i_2 : Int) + 1))), some (.int (Int32.ofInt (s 0 i_2))), some (.int (Int32.ofInt v_11))]) (st' := []) (σ' := (zN L X (zhi s) R G nc ns)) (fun n => rfl) ?_
            exact ih7 (i_2 + 1) (some (.int (Int32.ofInt (s 0 i_2)))) (some (.int (Int32.ofInt v_11))) (by omega) (by omega)
          · skip
            refine zW.run 3 (pc' := 58) (ls' := [some (.ref 7), some (.int (Int32.ofInt x)), some (.int (Int32.ofInt y)), some (.ref 0), some (.int (Int32.ofInt 4)), some (.int (Int32.ofInt (i_2 : Int))), some (.int (Int32.ofInt (s 0 i_2))), some (.int (Int32.ofInt v_11))]) (st' := [.int (Int32.ofInt x), .int (Int32.ofInt 1), .ref 7]) (σ' := (zN L X (zhi s) R G nc ns)) (fun n => rfl) ?_
            refine zW.jsub rfl ?_
            refine zW.run 1 (pc' := 61) (ls' := [some (.ref 7), some (.int (Int32.ofInt x)), some (.int (Int32.ofInt y)), some (.ref 0), some (.int (Int32.ofInt 4)), some (.int (Int32.ofInt (i_2 : Int))), some (.int (Int32.ofInt (s 0 i_2))), some (.int (Int32.ofInt v_11))]) (st' := [.int (Int32.ofInt v_11), .int (Int32.ofInt (1 - x)), .ref 7]) (σ' := (zN L X (zhi s) R G nc ns)) (fun n => rfl) ?_
            refine zW.callV rfl (by decide) rfl rfl rfl rfl rfl (Nat.le_of_ble_eq_true rfl) ?_
            refine t_Siege_isHeldBy S V (x := (1 - x)) (y := v_11) (by omega) (by omega) ?_ ?_
            · skip
              show zW ro 53 64 [some (.ref 7), some (.int (Int32.ofInt x)), some (.int (Int32.ofInt y)), some (.ref 0), some (.int (Int32.ofInt 4)), some (.int (Int32.ofInt (i_2 : Int))), some (.int (Int32.ofInt (s 0 i_2))), some (.int (Int32.ofInt v_11))] [.int (Int32.ofInt 1)] (zN L X (zhi s) R G nc ns) Q
              refine zW.run 1 (pc' := 70) (ls' := [some (.ref 7), some (.int (Int32.ofInt x)), some (.int (Int32.ofInt y)), some (.ref 0), some (.int (Int32.ofInt 4)), some (.int (Int32.ofInt (i_2 : Int))), some (.int (Int32.ofInt (s 0 i_2))), some (.int (Int32.ofInt v_11))]) (st' := []) (σ' := (zN L X (zhi s) R G nc ns)) (fun n => rfl) ?_
              refine zW.jinc (ls' := [some (.ref 7), some (.int (Int32.ofInt x)), some (.int (Int32.ofInt y)), some (.ref 0), some (.int (Int32.ofInt 4)), some (.int (Int32.ofInt ((i_2 : Int) + 1))), some (.int (Int32.ofInt (s 0 i_2))), some (.int (Int32.ofInt v_11))]) rfl (Nat.le_of_ble_eq_true rfl) rfl rfl ?_
              refine zW.run 1 (pc' := 11) (ls' := [some (.ref 7), some (.int (Int32.ofInt x)), some (.int (Int32.ofInt y)), some (.ref 0), some (.int (Int32.ofInt 4)), some (.int (Int32.ofInt ((i_2 : Int) + 1))), some (.int (Int32.ofInt (s 0 i_2))), some (.int (Int32.ofInt v_11))]) (st' := []) (σ' := (zN L X (zhi s) R G nc ns)) (fun n => rfl) ?_
              exact ih7 (i_2 + 1) (some (.int (Int32.ofInt (s 0 i_2)))) (some (.int (Int32.ofInt v_11))) (by omega) (by omega)
            · skip
              show zW ro 53 64 [some (.ref 7), some (.int (Int32.ofInt x)), some (.int (Int32.ofInt y)), some (.ref 0), some (.int (Int32.ofInt 4)), some (.int (Int32.ofInt (i_2 : Int))), some (.int (Int32.ofInt (s 0 i_2))), some (.int (Int32.ofInt v_11))] [.int (Int32.ofInt 0)] (zN L X (zhi s) R G nc ns) Q
              refine zW.run 2 (pc' := 69) (ls' := [some (.ref 7), some (.int (Int32.ofInt x)), some (.int (Int32.ofInt y)), some (.ref 0), some (.int (Int32.ofInt 4)), some (.int (Int32.ofInt (i_2 : Int))), some (.int (Int32.ofInt (s 0 i_2))), some (.int (Int32.ofInt v_11))]) (st' := [.int (Int32.ofInt v_11)]) (σ' := (zN L X (zhi s) R G nc ns)) (fun n => rfl) ?_
              exact zW.jret rfl rfl (hQ0 v_11 (by omega))
  exact J6 _ 0 none none (by omega) (Nat.lt_succ_self _)
set_option maxHeartbeats 4000000 in
theorem t_Duties_toilNeeded (S : zSR R) {x : Int} (p0 : -2147483648 ≤ x ∧ x < 2147483648) (hQ0 : ∀ (v : Int), 20 ≤ v ∧ v ≤ 60 → Q (.inl (some (.int (Int32.ofInt v)))) (zN L X (zhi s) R G nc ns)) : zW ro 55 0 (zfst [.int (Int32.ofInt x)] 1) [] (zN L X (zhi s) R G nc ns) Q := by
  show zW ro 55 0 [some (.int (Int32.ofInt x))] [] (zN L X (zhi s) R G nc ns) Q
  refine zW.run 1 (pc' := 1) (ls' := [some (.int (Int32.ofInt x))]) (st' := [.int (Int32.ofInt x)]) (σ' := (zN L X (zhi s) R G nc ns)) (fun n => rfl) ?_
  refine zW.jtab rfl (by omega) (fun d1 => ?_) (fun j9 t9 d1 f9 => ?_) (by decide)
  · skip
    refine zW.run 1 (pc' := 39) (ls' := [some (.int (Int32.ofInt x))]) (st' := [.int (Int32.ofInt 60)]) (σ' := (zN L X (zhi s) R G nc ns)) (fun n => rfl) ?_
    exact zW.jret rfl rfl (hQ0 60 (by omega))
  match j9, d1, f9 with
  | 0, d1, f9 =>
    cases f9
    refine zW.run 1 (pc' := 30) (ls' := [some (.int (Int32.ofInt x))]) (st' := [.int (Int32.ofInt 20)]) (σ' := (zN L X (zhi s) R G nc ns)) (fun n => rfl) ?_
    exact zW.jret rfl rfl (hQ0 20 (by omega))
  | 1, d1, f9 =>
    cases f9
    refine zW.run 1 (pc' := 33) (ls' := [some (.int (Int32.ofInt x))]) (st' := [.int (Int32.ofInt 30)]) (σ' := (zN L X (zhi s) R G nc ns)) (fun n => rfl) ?_
    exact zW.jret rfl rfl (hQ0 30 (by omega))
  | 2, d1, f9 =>
    cases f9
    refine zW.run 1 (pc' := 36) (ls' := [some (.int (Int32.ofInt x))]) (st' := [.int (Int32.ofInt 24)]) (σ' := (zN L X (zhi s) R G nc ns)) (fun n => rfl) ?_
    exact zW.jret rfl rfl (hQ0 24 (by omega))
  | n9 + 3, e9, f9 => cases f9
set_option maxHeartbeats 4000000 in
theorem t_Duties_quarterOf (S : zSR R) {x : Int} (p0 : 0 ≤ x ∧ x ≤ 200) (hQ0 : ∀ (v : Int), 0 ≤ v ∧ v ≤ 200 → Q (.inl (some (.int (Int32.ofInt v)))) (zN L X (zhi s) R G nc ns)) : zW ro 52 0 (zfst [.int (Int32.ofInt x)] 1) [] (zN L X (zhi s) R G nc ns) Q := by
  show zW ro 52 0 [some (.int (Int32.ofInt x))] [] (zN L X (zhi s) R G nc ns) Q
  refine zW.run 2 (pc' := 3) (ls' := [some (.int (Int32.ofInt x))]) (st' := [.int (Int32.ofInt 8), .int (Int32.ofInt x)]) (σ' := (zN L X (zhi s) R G nc ns)) (fun n => rfl) ?_
  refine zW.jcmp_ge rfl (by omega) (fun c1 => ?_) (fun c1 => ?_)
  · skip
    refine zW.run 2 (pc' := 12) (ls' := [some (.int (Int32.ofInt x))]) (st' := [.int (Int32.ofInt 4), .int (Int32.ofInt x)]) (σ' := (zN L X (zhi s) R G nc ns)) (fun n => rfl) ?_
    refine zW.jdiv rfl (by omega) ?_
    exact zW.jret rfl rfl (hQ0 (x / 4) (by omega))
  · skip
    refine zW.run 2 (pc' := 13) (ls' := [some (.int (Int32.ofInt x))]) (st' := [.int (Int32.ofInt 1)]) (σ' := (zN L X (zhi s) R G nc ns)) (fun n => rfl) ?_
    exact zW.jret rfl rfl (hQ0 1 (by omega))
set_option maxHeartbeats 4000000 in
theorem t_Siege_companyAt (S : zSR R) (V : zV g U F T B ph s) {i : Nat} (p0 : i < 8) (hQ0 : Q (.inl (some (.ref (42 + i)))) (zN L X (zhi s) R G nc ns)) : zW ro 131 0 (zfst [.ref 7, .int (Int32.ofInt (i : Int))] 2) [] (zN L X (zhi s) R G nc ns) Q := by
  show zW ro 131 0 [some (.ref 7), some (.int (Int32.ofInt (i : Int)))] [] (zN L X (zhi s) R G nc ns) Q
  have f1 := zA_geo (zV_zA V)
  have hB0 := zV_B V
  have f2 := zV_sie V
  refine zW.run 1 (pc' := 1) (ls' := [some (.ref 7), some (.int (Int32.ofInt (i : Int)))]) (st' := [.int (Int32.ofInt (i : Int))]) (σ' := (zN L X (zhi s) R G nc ns)) (fun n => rfl) ?_
  refine zW.jif_lt rfl (by omega) (fun c3 => ?_) (fun c3 => ?_)
  · skip
    refine zW.run 1 (pc' := 28) (ls' := [some (.ref 7), some (.int (Int32.ofInt (i : Int)))]) (st' := [.null]) (σ' := (zN L X (zhi s) R G nc ns)) (fun n => rfl) ?_
    exfalso
    omega
  · skip
    refine zW.run 2 (pc' := 6) (ls' := [some (.ref 7), some (.int (Int32.ofInt (i : Int)))]) (st' := [.ref 7, .int (Int32.ofInt (i : Int))]) (σ' := (zN L X (zhi s) R G nc ns)) (fun n => rfl) ?_
    refine zW.run 1 (pc' := 9) (ls' := [some (.ref 7), some (.int (Int32.ofInt (i : Int)))]) (st' := [.int (Int32.ofInt (s 7 8)), .int (Int32.ofInt (i : Int))]) (σ' := (zN L X (zhi s) R G nc ns)) (fun n => rfl) ?_
    refine zW.jcmp_ge rfl (by omega) (fun c4 => ?_) (fun c4 => ?_)
    · skip
      refine zW.run 1 (pc' := 28) (ls' := [some (.ref 7), some (.int (Int32.ofInt (i : Int)))]) (st' := [.null]) (σ' := (zN L X (zhi s) R G nc ns)) (fun n => rfl) ?_
      exfalso
      omega
    · skip
      refine zW.run 2 (pc' := 15) (ls' := [some (.ref 7), some (.int (Int32.ofInt (i : Int)))]) (st' := [.int (Int32.ofInt 12), .int (Int32.ofInt (i : Int))]) (σ' := (zN L X (zhi s) R G nc ns)) (fun n => rfl) ?_
      refine zW.jcmp_ge rfl (by omega) (fun c5 => ?_) (fun c5 => ?_)
      · skip
        refine zW.run 1 (pc' := 28) (ls' := [some (.ref 7), some (.int (Int32.ofInt (i : Int)))]) (st' := [.null]) (σ' := (zN L X (zhi s) R G nc ns)) (fun n => rfl) ?_
        exfalso
        omega
      · skip
        refine zW.run 1 (pc' := 19) (ls' := [some (.ref 7), some (.int (Int32.ofInt (i : Int)))]) (st' := [.ref 7]) (σ' := (zN L X (zhi s) R G nc ns)) (fun n => rfl) ?_
        refine zW.getf (v := .ref 19) rfl rfl (zr_7_2 S) ?_
        refine zW.run 1 (pc' := 23) (ls' := [some (.ref 7), some (.int (Int32.ofInt (i : Int)))]) (st' := [.int (Int32.ofInt (i : Int)), .ref 19]) (σ' := (zN L X (zhi s) R G nc ns)) (fun n => rfl) ?_
        refine zW.jaald (n := 12) (v := .ref (42 + i)) rfl rfl (by decide) (by decide) (by omega) (zr_com S (by omega)) ?_
        refine zW.run 1 (pc' := 28) (ls' := [some (.ref 7), some (.int (Int32.ofInt (i : Int)))]) (st' := [.ref (42 + i)]) (σ' := (zN L X (zhi s) R G nc ns)) (fun n => rfl) ?_
        exact zW.aret rfl hQ0
set_option maxHeartbeats 4000000 in
theorem t_Siege_gunAt (S : zSR R) (V : zV g U F T B ph s) {i : Nat} (p0 : i < 6) (hQ0 : Q (.inl (some (.ref (26 + i)))) (zN L X (zhi s) R G nc ns)) : zW ro 137 0 (zfst [.ref 7, .int (Int32.ofInt (i : Int))] 2) [] (zN L X (zhi s) R G nc ns) Q := by
  show zW ro 137 0 [some (.ref 7), some (.int (Int32.ofInt (i : Int)))] [] (zN L X (zhi s) R G nc ns) Q
  have f1 := zA_geo (zV_zA V)
  have hB0 := zV_B V
  have f2 := zV_sie V
  refine zW.run 1 (pc' := 1) (ls' := [some (.ref 7), some (.int (Int32.ofInt (i : Int)))]) (st' := [.int (Int32.ofInt (i : Int))]) (σ' := (zN L X (zhi s) R G nc ns)) (fun n => rfl) ?_
  refine zW.jif_lt rfl (by omega) (fun c3 => ?_) (fun c3 => ?_)
  · skip
    refine zW.run 1 (pc' := 28) (ls' := [some (.ref 7), some (.int (Int32.ofInt (i : Int)))]) (st' := [.null]) (σ' := (zN L X (zhi s) R G nc ns)) (fun n => rfl) ?_
    exfalso
    omega
  · skip
    refine zW.run 2 (pc' := 6) (ls' := [some (.ref 7), some (.int (Int32.ofInt (i : Int)))]) (st' := [.ref 7, .int (Int32.ofInt (i : Int))]) (σ' := (zN L X (zhi s) R G nc ns)) (fun n => rfl) ?_
    refine zW.run 1 (pc' := 9) (ls' := [some (.ref 7), some (.int (Int32.ofInt (i : Int)))]) (st' := [.int (Int32.ofInt (s 7 7)), .int (Int32.ofInt (i : Int))]) (σ' := (zN L X (zhi s) R G nc ns)) (fun n => rfl) ?_
    refine zW.jcmp_ge rfl (by omega) (fun c4 => ?_) (fun c4 => ?_)
    · skip
      refine zW.run 1 (pc' := 28) (ls' := [some (.ref 7), some (.int (Int32.ofInt (i : Int)))]) (st' := [.null]) (σ' := (zN L X (zhi s) R G nc ns)) (fun n => rfl) ?_
      exfalso
      omega
    · skip
      refine zW.run 2 (pc' := 15) (ls' := [some (.ref 7), some (.int (Int32.ofInt (i : Int)))]) (st' := [.int (Int32.ofInt 16), .int (Int32.ofInt (i : Int))]) (σ' := (zN L X (zhi s) R G nc ns)) (fun n => rfl) ?_
      refine zW.jcmp_ge rfl (by omega) (fun c5 => ?_) (fun c5 => ?_)
      · skip
        refine zW.run 1 (pc' := 28) (ls' := [some (.ref 7), some (.int (Int32.ofInt (i : Int)))]) (st' := [.null]) (σ' := (zN L X (zhi s) R G nc ns)) (fun n => rfl) ?_
        exfalso
        omega
      · skip
        refine zW.run 1 (pc' := 19) (ls' := [some (.ref 7), some (.int (Int32.ofInt (i : Int)))]) (st' := [.ref 7]) (σ' := (zN L X (zhi s) R G nc ns)) (fun n => rfl) ?_
        refine zW.getf (v := .ref 18) rfl rfl (zr_7_1 S) ?_
        refine zW.run 1 (pc' := 23) (ls' := [some (.ref 7), some (.int (Int32.ofInt (i : Int)))]) (st' := [.int (Int32.ofInt (i : Int)), .ref 18]) (σ' := (zN L X (zhi s) R G nc ns)) (fun n => rfl) ?_
        refine zW.jaald (n := 16) (v := .ref (26 + i)) rfl rfl (by decide) (by decide) (by omega) (zr_gun S (by omega)) ?_
        refine zW.run 1 (pc' := 28) (ls' := [some (.ref 7), some (.int (Int32.ofInt (i : Int)))]) (st' := [.ref (26 + i)]) (σ' := (zN L X (zhi s) R G nc ns)) (fun n => rfl) ?_
        exact zW.aret rfl hQ0
set_option maxHeartbeats 4000000 in
theorem t_Siege_mineAt (S : zSR R) (V : zV g U F T B ph s) {i : Nat} (p0 : i < 1000) (hQ0 : (i : Int) < s 7 9 → i < 6 → Q (.inl (some (.ref (54 + 2 * i)))) (zN L X (zhi s) R G nc ns)) (hQ1 : s 7 9 ≤ (i : Int) → Q (.inl (some .null)) (zN L X (zhi s) R G nc ns)) : zW ro 148 0 (zfst [.ref 7, .int (Int32.ofInt (i : Int))] 2) [] (zN L X (zhi s) R G nc ns) Q := by
  show zW ro 148 0 [some (.ref 7), some (.int (Int32.ofInt (i : Int)))] [] (zN L X (zhi s) R G nc ns) Q
  have f1 := zA_geo (zV_zA V)
  have hB0 := zV_B V
  have f2 := zV_sie V
  refine zW.run 1 (pc' := 1) (ls' := [some (.ref 7), some (.int (Int32.ofInt (i : Int)))]) (st' := [.int (Int32.ofInt (i : Int))]) (σ' := (zN L X (zhi s) R G nc ns)) (fun n => rfl) ?_
  refine zW.jif_lt rfl (by omega) (fun c3 => ?_) (fun c3 => ?_)
  · skip
    refine zW.run 1 (pc' := 28) (ls' := [some (.ref 7), some (.int (Int32.ofInt (i : Int)))]) (st' := [.null]) (σ' := (zN L X (zhi s) R G nc ns)) (fun n => rfl) ?_
    exact zW.nret rfl (hQ1 (by omega))
  · skip
    refine zW.run 2 (pc' := 6) (ls' := [some (.ref 7), some (.int (Int32.ofInt (i : Int)))]) (st' := [.ref 7, .int (Int32.ofInt (i : Int))]) (σ' := (zN L X (zhi s) R G nc ns)) (fun n => rfl) ?_
    refine zW.run 1 (pc' := 9) (ls' := [some (.ref 7), some (.int (Int32.ofInt (i : Int)))]) (st' := [.int (Int32.ofInt (s 7 9)), .int (Int32.ofInt (i : Int))]) (σ' := (zN L X (zhi s) R G nc ns)) (fun n => rfl) ?_
    refine zW.jcmp_ge rfl (by omega) (fun c4 => ?_) (fun c4 => ?_)
    · skip
      refine zW.run 1 (pc' := 28) (ls' := [some (.ref 7), some (.int (Int32.ofInt (i : Int)))]) (st' := [.null]) (σ' := (zN L X (zhi s) R G nc ns)) (fun n => rfl) ?_
      exact zW.nret rfl (hQ1 (by omega))
    · skip
      refine zW.run 2 (pc' := 15) (ls' := [some (.ref 7), some (.int (Int32.ofInt (i : Int)))]) (st' := [.int (Int32.ofInt 6), .int (Int32.ofInt (i : Int))]) (σ' := (zN L X (zhi s) R G nc ns)) (fun n => rfl) ?_
      refine zW.jcmp_ge rfl (by omega) (fun c5 => ?_) (fun c5 => ?_)
      · skip
        refine zW.run 1 (pc' := 28) (ls' := [some (.ref 7), some (.int (Int32.ofInt (i : Int)))]) (st' := [.null]) (σ' := (zN L X (zhi s) R G nc ns)) (fun n => rfl) ?_
        exact zW.nret rfl (hQ1 (by omega))
      · skip
        refine zW.run 1 (pc' := 19) (ls' := [some (.ref 7), some (.int (Int32.ofInt (i : Int)))]) (st' := [.ref 7]) (σ' := (zN L X (zhi s) R G nc ns)) (fun n => rfl) ?_
        refine zW.getf (v := .ref 20) rfl rfl (zr_7_3 S) ?_
        refine zW.run 1 (pc' := 23) (ls' := [some (.ref 7), some (.int (Int32.ofInt (i : Int)))]) (st' := [.int (Int32.ofInt (i : Int)), .ref 20]) (σ' := (zN L X (zhi s) R G nc ns)) (fun n => rfl) ?_
        refine zW.jaald (n := 6) (v := .ref (54 + 2 * i)) rfl rfl (by decide) (by decide) (by omega) (zr_min S (by omega)) ?_
        refine zW.run 1 (pc' := 28) (ls' := [some (.ref 7), some (.int (Int32.ofInt (i : Int)))]) (st' := [.ref (54 + 2 * i)]) (σ' := (zN L X (zhi s) R G nc ns)) (fun n => rfl) ?_
        exact zW.aret rfl (hQ0 (by omega) (by omega))
set_option maxHeartbeats 4000000 in
theorem t_S_squareFact_0 (S : zSR R) (V : zV g U F T B ph s) {x : Int} (p0 : 0 ≤ x ∧ x < g 2) (hQ0 : Q (.inl (some (.int (Int32.ofInt (s 9 x.toNat))))) (zN L X (zhi s) R G nc ns)) : zW ro 30 0 (zfst [.ref 6, .int (Int32.ofInt x), .int (Int32.ofInt 0)] 4) [] (zN L X (zhi s) R G nc ns) Q := by
  show zW ro 30 0 [some (.ref 6), some (.int (Int32.ofInt x)), some (.int (Int32.ofInt 0)), none] [] (zN L X (zhi s) R G nc ns) Q
  have f1 := zA_geo (zV_zA V)
  have hB0 := zV_B V
  refine zW.run 1 (pc' := 1) (ls' := [some (.ref 6), some (.int (Int32.ofInt x)), some (.int (Int32.ofInt 0)), none]) (st' := [.ref 6]) (σ' := (zN L X (zhi s) R G nc ns)) (fun n => rfl) ?_
  refine zW.getf (v := .ref 7) rfl rfl (zr_6_0 S) ?_
  refine zW.getf (v := .ref 8) rfl rfl (zr_7_0 S) ?_
  refine zW.run 2 (pc' := 9) (ls' := [some (.ref 6), some (.int (Int32.ofInt x)), some (.int (Int32.ofInt 0)), some (.ref 8)]) (st' := [.int (Int32.ofInt 0)]) (σ' := (zN L X (zhi s) R G nc ns)) (fun n => rfl) ?_
  refine zW.go (pc' := 60) (ls' := [some (.ref 6), some (.int (Int32.ofInt x)), some (.int (Int32.ofInt 0)), some (.ref 8)]) (st' := []) (σ' := (zN L X (zhi s) R G nc ns)) rfl (fun rec => rfl) ?_
  refine zW.run 2 (pc' := 62) (ls' := [some (.ref 6), some (.int (Int32.ofInt x)), some (.int (Int32.ofInt 0)), some (.ref 8)]) (st' := [.int (Int32.ofInt x), .ref 8]) (σ' := (zN L X (zhi s) R G nc ns)) (fun n => rfl) ?_
  refine zW.callV rfl (by decide) rfl rfl rfl rfl rfl (Nat.le_of_ble_eq_true rfl) ?_
  refine t_Ground_heightOf_e S V (x := x) (by omega) ?_
  show zW ro 30 65 [some (.ref 6), some (.int (Int32.ofInt x)), some (.int (Int32.ofInt 0)), some (.ref 8)] [.int (Int32.ofInt (s 9 x.toNat))] (zN L X (zhi s) R G nc ns) Q
  have f2 := zV_sq V (k := x.toNat) (by omega)
  exact zW.jret rfl rfl hQ0
set_option maxHeartbeats 4000000 in
theorem t_S_squareFact_2 (S : zSR R) (V : zV g U F T B ph s) {x : Int} (p0 : 0 ≤ x ∧ x < g 2) (hQ0 : Q (.inl (some (.int (Int32.ofInt (s 11 x.toNat))))) (zN L X (zhi s) R G nc ns)) : zW ro 30 0 (zfst [.ref 6, .int (Int32.ofInt x), .int (Int32.ofInt 2)] 4) [] (zN L X (zhi s) R G nc ns) Q := by
  show zW ro 30 0 [some (.ref 6), some (.int (Int32.ofInt x)), some (.int (Int32.ofInt 2)), none] [] (zN L X (zhi s) R G nc ns) Q
  have f1 := zA_geo (zV_zA V)
  have hB0 := zV_B V
  refine zW.run 1 (pc' := 1) (ls' := [some (.ref 6), some (.int (Int32.ofInt x)), some (.int (Int32.ofInt 2)), none]) (st' := [.ref 6]) (σ' := (zN L X (zhi s) R G nc ns)) (fun n => rfl) ?_
  refine zW.getf (v := .ref 7) rfl rfl (zr_6_0 S) ?_
  refine zW.getf (v := .ref 8) rfl rfl (zr_7_0 S) ?_
  refine zW.run 2 (pc' := 9) (ls' := [some (.ref 6), some (.int (Int32.ofInt x)), some (.int (Int32.ofInt 2)), some (.ref 8)]) (st' := [.int (Int32.ofInt 2)]) (σ' := (zN L X (zhi s) R G nc ns)) (fun n => rfl) ?_
  refine zW.go (pc' := 72) (ls' := [some (.ref 6), some (.int (Int32.ofInt x)), some (.int (Int32.ofInt 2)), some (.ref 8)]) (st' := []) (σ' := (zN L X (zhi s) R G nc ns)) rfl (fun rec => rfl) ?_
  refine zW.run 2 (pc' := 74) (ls' := [some (.ref 6), some (.int (Int32.ofInt x)), some (.int (Int32.ofInt 2)), some (.ref 8)]) (st' := [.int (Int32.ofInt x), .ref 8]) (σ' := (zN L X (zhi s) R G nc ns)) (fun n => rfl) ?_
  refine zW.callV rfl (by decide) rfl rfl rfl rfl rfl (Nat.le_of_ble_eq_true rfl) ?_
  refine t_Ground_workOf_e S V (x := x) (by omega) ?_
  show zW ro 30 77 [some (.ref 6), some (.int (Int32.ofInt x)), some (.int (Int32.ofInt 2)), some (.ref 8)] [.int (Int32.ofInt (s 11 x.toNat))] (zN L X (zhi s) R G nc ns) Q
  have f2 := zV_sq V (k := x.toNat) (by omega)
  exact zW.jret rfl rfl hQ0
set_option maxHeartbeats 4000000 in
theorem t_S_squareFact_3 (S : zSR R) (V : zV g U F T B ph s) {x : Int} (p0 : 0 ≤ x ∧ x < g 2) (hQ0 : ∀ (v : Int), s 11 x.toNat = 1 ∧ v = s 12 x.toNat ∨ ¬ s 11 x.toNat = 1 ∧ v = 0 → Q (.inl (some (.int (Int32.ofInt v)))) (zN L X (zhi s) R G nc ns)) : zW ro 30 0 (zfst [.ref 6, .int (Int32.ofInt x), .int (Int32.ofInt 3)] 4) [] (zN L X (zhi s) R G nc ns) Q := by
  show zW ro 30 0 [some (.ref 6), some (.int (Int32.ofInt x)), some (.int (Int32.ofInt 3)), none] [] (zN L X (zhi s) R G nc ns) Q
  have f1 := zA_geo (zV_zA V)
  have hB0 := zV_B V
  refine zW.run 1 (pc' := 1) (ls' := [some (.ref 6), some (.int (Int32.ofInt x)), some (.int (Int32.ofInt 3)), none]) (st' := [.ref 6]) (σ' := (zN L X (zhi s) R G nc ns)) (fun n => rfl) ?_
  refine zW.getf (v := .ref 7) rfl rfl (zr_6_0 S) ?_
  refine zW.getf (v := .ref 8) rfl rfl (zr_7_0 S) ?_
  refine zW.run 2 (pc' := 9) (ls' := [some (.ref 6), some (.int (Int32.ofInt x)), some (.int (Int32.ofInt 3)), some (.ref 8)]) (st' := [.int (Int32.ofInt 3)]) (σ' := (zN L X (zhi s) R G nc ns)) (fun n => rfl) ?_
  refine zW.go (pc' := 78) (ls' := [some (.ref 6), some (.int (Int32.ofInt x)), some (.int (Int32.ofInt 3)), some (.ref 8)]) (st' := []) (σ' := (zN L X (zhi s) R G nc ns)) rfl (fun rec => rfl) ?_
  refine zW.run 2 (pc' := 80) (ls' := [some (.ref 6), some (.int (Int32.ofInt x)), some (.int (Int32.ofInt 3)), some (.ref 8)]) (st' := [.int (Int32.ofInt x), .ref 8]) (σ' := (zN L X (zhi s) R G nc ns)) (fun n => rfl) ?_
  refine zW.callV rfl (by decide) rfl rfl rfl rfl rfl (Nat.le_of_ble_eq_true rfl) ?_
  refine t_Ground_firmOf_e S V (x := x) (by omega) (fun v_2 f3 => ?_)
  show zW ro 30 83 [some (.ref 6), some (.int (Int32.ofInt x)), some (.int (Int32.ofInt 3)), some (.ref 8)] [.int (Int32.ofInt v_2)] (zN L X (zhi s) R G nc ns) Q
  have f4 := zV_sq V (k := x.toNat) (by omega)
  exact zW.jret rfl rfl (hQ0 v_2 (by omega))
set_option maxHeartbeats 4000000 in
theorem t_S_squareFact_4 (S : zSR R) (V : zV g U F T B ph s) {x : Int} (p0 : 0 ≤ x ∧ x < g 2) (hQ0 : Q (.inl (some (.int (Int32.ofInt (s 13 x.toNat))))) (zN L X (zhi s) R G nc ns)) : zW ro 30 0 (zfst [.ref 6, .int (Int32.ofInt x), .int (Int32.ofInt 4)] 4) [] (zN L X (zhi s) R G nc ns) Q := by
  show zW ro 30 0 [some (.ref 6), some (.int (Int32.ofInt x)), some (.int (Int32.ofInt 4)), none] [] (zN L X (zhi s) R G nc ns) Q
  have f1 := zA_geo (zV_zA V)
  have hB0 := zV_B V
  refine zW.run 1 (pc' := 1) (ls' := [some (.ref 6), some (.int (Int32.ofInt x)), some (.int (Int32.ofInt 4)), none]) (st' := [.ref 6]) (σ' := (zN L X (zhi s) R G nc ns)) (fun n => rfl) ?_
  refine zW.getf (v := .ref 7) rfl rfl (zr_6_0 S) ?_
  refine zW.getf (v := .ref 8) rfl rfl (zr_7_0 S) ?_
  refine zW.run 2 (pc' := 9) (ls' := [some (.ref 6), some (.int (Int32.ofInt x)), some (.int (Int32.ofInt 4)), some (.ref 8)]) (st' := [.int (Int32.ofInt 4)]) (σ' := (zN L X (zhi s) R G nc ns)) (fun n => rfl) ?_
  refine zW.go (pc' := 84) (ls' := [some (.ref 6), some (.int (Int32.ofInt x)), some (.int (Int32.ofInt 4)), some (.ref 8)]) (st' := []) (σ' := (zN L X (zhi s) R G nc ns)) rfl (fun rec => rfl) ?_
  refine zW.run 2 (pc' := 86) (ls' := [some (.ref 6), some (.int (Int32.ofInt x)), some (.int (Int32.ofInt 4)), some (.ref 8)]) (st' := [.int (Int32.ofInt x), .ref 8]) (σ' := (zN L X (zhi s) R G nc ns)) (fun n => rfl) ?_
  refine zW.callV rfl (by decide) rfl rfl rfl rfl rfl (Nat.le_of_ble_eq_true rfl) ?_
  refine t_Ground_toilOf_e S V (x := x) (by omega) ?_
  show zW ro 30 89 [some (.ref 6), some (.int (Int32.ofInt x)), some (.int (Int32.ofInt 4)), some (.ref 8)] [.int (Int32.ofInt (s 13 x.toNat))] (zN L X (zhi s) R G nc ns) Q
  have f2 := zV_sq V (k := x.toNat) (by omega)
  exact zW.jret rfl rfl hQ0
set_option maxHeartbeats 4000000 in
theorem t_S_squareFact_5 (S : zSR R) (V : zV g U F T B ph s) {x : Int} (p0 : 0 ≤ x ∧ x < g 2) (hQ0 : ∀ (v : Int), s 11 x.toNat = 1 ∧ v = 2 * s 9 x.toNat + 6 ∨ s 11 x.toNat = 3 ∧ v = 2 * s 9 x.toNat + 4 ∨ s 11 x.toNat = 6 ∧ v = 2 * s 9 x.toNat + 2 ∨ s 11 x.toNat = 4 ∧ v = 2 * s 9 x.toNat + 2 ∨ s 11 x.toNat = 2 ∧ v = 2 * s 9 x.toNat + -4 ∨ s 11 x.toNat = 7 ∧ v = 2 * s 9 x.toNat + -2 ∨ s 11 x.toNat = 0 ∧ v = 2 * s 9 x.toNat + 0 ∨ s 11 x.toNat = 5 ∧ v = 2 * s 9 x.toNat + 0 → Q (.inl (some (.int (Int32.ofInt v)))) (zN L X (zhi s) R G nc ns)) : zW ro 30 0 (zfst [.ref 6, .int (Int32.ofInt x), .int (Int32.ofInt 5)] 4) [] (zN L X (zhi s) R G nc ns) Q := by
  show zW ro 30 0 [some (.ref 6), some (.int (Int32.ofInt x)), some (.int (Int32.ofInt 5)), none] [] (zN L X (zhi s) R G nc ns) Q
  have f1 := zA_geo (zV_zA V)
  have hB0 := zV_B V
  refine zW.run 1 (pc' := 1) (ls' := [some (.ref 6), some (.int (Int32.ofInt x)), some (.int (Int32.ofInt 5)), none]) (st' := [.ref 6]) (σ' := (zN L X (zhi s) R G nc ns)) (fun n => rfl) ?_
  refine zW.getf (v := .ref 7) rfl rfl (zr_6_0 S) ?_
  refine zW.getf (v := .ref 8) rfl rfl (zr_7_0 S) ?_
  refine zW.run 2 (pc' := 9) (ls' := [some (.ref 6), some (.int (Int32.ofInt x)), some (.int (Int32.ofInt 5)), some (.ref 8)]) (st' := [.int (Int32.ofInt 5)]) (σ' := (zN L X (zhi s) R G nc ns)) (fun n => rfl) ?_
  refine zW.go (pc' := 90) (ls' := [some (.ref 6), some (.int (Int32.ofInt x)), some (.int (Int32.ofInt 5)), some (.ref 8)]) (st' := []) (σ' := (zN L X (zhi s) R G nc ns)) rfl (fun rec => rfl) ?_
  refine zW.run 2 (pc' := 92) (ls' := [some (.ref 6), some (.int (Int32.ofInt x)), some (.int (Int32.ofInt 5)), some (.ref 8)]) (st' := [.int (Int32.ofInt x), .ref 8]) (σ' := (zN L X (zhi s) R G nc ns)) (fun n => rfl) ?_
  refine zW.callV rfl (by decide) rfl rfl rfl rfl rfl (Nat.le_of_ble_eq_true rfl) ?_
  refine t_Ground_topOf_e S V (x := x) (by omega) (fun v_2 f3 => ?_)
  show zW ro 30 95 [some (.ref 6), some (.int (Int32.ofInt x)), some (.int (Int32.ofInt 5)), some (.ref 8)] [.int (Int32.ofInt v_2)] (zN L X (zhi s) R G nc ns) Q
  have f4 := zV_sq V (k := x.toNat) (by omega)
  exact zW.jret rfl rfl (hQ0 v_2 (by omega))
set_option maxHeartbeats 4000000 in
theorem t_S_squareFact_6 (S : zSR R) (V : zV g U F T B ph s) {x : Int} (p0 : 0 ≤ x ∧ x < g 2) (hQ0 : ∀ (t : Int) (v : Int), s 11 x.toNat = 1 ∧ t = 2 * s 9 x.toNat + 6 ∨ s 11 x.toNat = 3 ∧ t = 2 * s 9 x.toNat + 4 ∨ s 11 x.toNat = 6 ∧ t = 2 * s 9 x.toNat + 2 ∨ s 11 x.toNat = 4 ∧ t = 2 * s 9 x.toNat + 2 ∨ s 11 x.toNat = 2 ∧ t = 2 * s 9 x.toNat + -4 ∨ s 11 x.toNat = 7 ∧ t = 2 * s 9 x.toNat + -2 ∨ s 11 x.toNat = 0 ∧ t = 2 * s 9 x.toNat + 0 ∨ s 11 x.toNat = 5 ∧ t = 2 * s 9 x.toNat + 0 → s 11 x.toNat = 5 ∧ v = t - 2 ∨ ¬ s 11 x.toNat = 5 ∧ v = t + 1 → Q (.inl (some (.int (Int32.ofInt v)))) (zN L X (zhi s) R G nc ns)) : zW ro 30 0 (zfst [.ref 6, .int (Int32.ofInt x), .int (Int32.ofInt 6)] 4) [] (zN L X (zhi s) R G nc ns) Q := by
  show zW ro 30 0 [some (.ref 6), some (.int (Int32.ofInt x)), some (.int (Int32.ofInt 6)), none] [] (zN L X (zhi s) R G nc ns) Q
  have f1 := zA_geo (zV_zA V)
  have hB0 := zV_B V
  refine zW.run 1 (pc' := 1) (ls' := [some (.ref 6), some (.int (Int32.ofInt x)), some (.int (Int32.ofInt 6)), none]) (st' := [.ref 6]) (σ' := (zN L X (zhi s) R G nc ns)) (fun n => rfl) ?_
  refine zW.getf (v := .ref 7) rfl rfl (zr_6_0 S) ?_
  refine zW.getf (v := .ref 8) rfl rfl (zr_7_0 S) ?_
  refine zW.run 2 (pc' := 9) (ls' := [some (.ref 6), some (.int (Int32.ofInt x)), some (.int (Int32.ofInt 6)), some (.ref 8)]) (st' := [.int (Int32.ofInt 6)]) (σ' := (zN L X (zhi s) R G nc ns)) (fun n => rfl) ?_
  refine zW.go (pc' := 96) (ls' := [some (.ref 6), some (.int (Int32.ofInt x)), some (.int (Int32.ofInt 6)), some (.ref 8)]) (st' := []) (σ' := (zN L X (zhi s) R G nc ns)) rfl (fun rec => rfl) ?_
  refine zW.run 2 (pc' := 98) (ls' := [some (.ref 6), some (.int (Int32.ofInt x)), some (.int (Int32.ofInt 6)), some (.ref 8)]) (st' := [.int (Int32.ofInt x), .ref 8]) (σ' := (zN L X (zhi s) R G nc ns)) (fun n => rfl) ?_
  refine zW.callV rfl (by decide) rfl rfl rfl rfl rfl (Nat.le_of_ble_eq_true rfl) ?_
  refine t_Ground_bodyOf_e S V (x := x) (by omega) (fun t_2 v_3 f4 f5 => ?_)
  show zW ro 30 101 [some (.ref 6), some (.int (Int32.ofInt x)), some (.int (Int32.ofInt 6)), some (.ref 8)] [.int (Int32.ofInt v_3)] (zN L X (zhi s) R G nc ns) Q
  have f6 := zV_sq V (k := x.toNat) (by omega)
  exact zW.jret rfl rfl (hQ0 t_2 v_3 (by omega) (by omega))
set_option maxHeartbeats 4000000 in
theorem t_S_squareFact_7 (S : zSR R) (V : zV g U F T B ph s) {x : Int} (p0 : 0 ≤ x ∧ x < g 2) (hQ0 : ∀ (v : Int), (s 11 x.toNat = 1 ∨ s 11 x.toNat = 3 ∨ s 11 x.toNat = 4 ∨ x = g 3) ∧ v = 1 ∨ ¬ (s 11 x.toNat = 1 ∨ s 11 x.toNat = 3 ∨ s 11 x.toNat = 4 ∨ x = g 3) ∧ (s 11 x.toNat = 5 ∨ x = 0) ∧ v = 0 ∨ ¬ (s 11 x.toNat = 1 ∨ s 11 x.toNat = 3 ∨ s 11 x.toNat = 4 ∨ x = g 3) ∧ ¬ (s 11 x.toNat = 5 ∨ x = 0) ∧ v = -1 → Q (.inl (some (.int (Int32.ofInt v)))) (zN L X (zhi s) R G nc ns)) : zW ro 30 0 (zfst [.ref 6, .int (Int32.ofInt x), .int (Int32.ofInt 7)] 4) [] (zN L X (zhi s) R G nc ns) Q := by
  show zW ro 30 0 [some (.ref 6), some (.int (Int32.ofInt x)), some (.int (Int32.ofInt 7)), none] [] (zN L X (zhi s) R G nc ns) Q
  have f1 := zA_geo (zV_zA V)
  have hB0 := zV_B V
  refine zW.run 1 (pc' := 1) (ls' := [some (.ref 6), some (.int (Int32.ofInt x)), some (.int (Int32.ofInt 7)), none]) (st' := [.ref 6]) (σ' := (zN L X (zhi s) R G nc ns)) (fun n => rfl) ?_
  refine zW.getf (v := .ref 7) rfl rfl (zr_6_0 S) ?_
  refine zW.getf (v := .ref 8) rfl rfl (zr_7_0 S) ?_
  refine zW.run 2 (pc' := 9) (ls' := [some (.ref 6), some (.int (Int32.ofInt x)), some (.int (Int32.ofInt 7)), some (.ref 8)]) (st' := [.int (Int32.ofInt 7)]) (σ' := (zN L X (zhi s) R G nc ns)) (fun n => rfl) ?_
  refine zW.go (pc' := 102) (ls' := [some (.ref 6), some (.int (Int32.ofInt x)), some (.int (Int32.ofInt 7)), some (.ref 8)]) (st' := []) (σ' := (zN L X (zhi s) R G nc ns)) rfl (fun rec => rfl) ?_
  refine zW.run 2 (pc' := 104) (ls' := [some (.ref 6), some (.int (Int32.ofInt x)), some (.int (Int32.ofInt 7)), some (.ref 8)]) (st' := [.int (Int32.ofInt x), .ref 8]) (σ' := (zN L X (zhi s) R G nc ns)) (fun n => rfl) ?_
  refine zW.callV rfl (by decide) rfl rfl rfl rfl rfl (Nat.le_of_ble_eq_true rfl) ?_
  refine t_Ground_belongsTo_e S V (x := x) (by omega) (fun v_2 f3 => ?_)
  show zW ro 30 107 [some (.ref 6), some (.int (Int32.ofInt x)), some (.int (Int32.ofInt 7)), some (.ref 8)] [.int (Int32.ofInt v_2)] (zN L X (zhi s) R G nc ns) Q
  have f4 := zV_sq V (k := x.toNat) (by omega)
  exact zW.jret rfl rfl (hQ0 v_2 (by omega))
set_option maxHeartbeats 4000000 in
theorem t_S_squareFact_8 (S : zSR R) (V : zV g U F T B ph s) {x : Int} (p0 : 0 ≤ x ∧ x < g 2) (hQ0 : ∀ (v : Int), 0 ≤ v ∧ v ≤ 2400 → v = zma s 0 x 12 → Q (.inl (some (.int (Int32.ofInt v)))) (zN L X (zhi s) R G nc ns)) : zW ro 30 0 (zfst [.ref 6, .int (Int32.ofInt x), .int (Int32.ofInt 8)] 4) [] (zN L X (zhi s) R G nc ns) Q := by
  show zW ro 30 0 [some (.ref 6), some (.int (Int32.ofInt x)), some (.int (Int32.ofInt 8)), none] [] (zN L X (zhi s) R G nc ns) Q
  have f1 := zA_geo (zV_zA V)
  have hB0 := zV_B V
  refine zW.run 1 (pc' := 1) (ls' := [some (.ref 6), some (.int (Int32.ofInt x)), some (.int (Int32.ofInt 8)), none]) (st' := [.ref 6]) (σ' := (zN L X (zhi s) R G nc ns)) (fun n => rfl) ?_
  refine zW.getf (v := .ref 7) rfl rfl (zr_6_0 S) ?_
  refine zW.getf (v := .ref 8) rfl rfl (zr_7_0 S) ?_
  refine zW.run 2 (pc' := 9) (ls' := [some (.ref 6), some (.int (Int32.ofInt x)), some (.int (Int32.ofInt 8)), some (.ref 8)]) (st' := [.int (Int32.ofInt 8)]) (σ' := (zN L X (zhi s) R G nc ns)) (fun n => rfl) ?_
  refine zW.go (pc' := 108) (ls' := [some (.ref 6), some (.int (Int32.ofInt x)), some (.int (Int32.ofInt 8)), some (.ref 8)]) (st' := []) (σ' := (zN L X (zhi s) R G nc ns)) rfl (fun rec => rfl) ?_
  refine zW.run 1 (pc' := 109) (ls' := [some (.ref 6), some (.int (Int32.ofInt x)), some (.int (Int32.ofInt 8)), some (.ref 8)]) (st' := [.ref 6]) (σ' := (zN L X (zhi s) R G nc ns)) (fun n => rfl) ?_
  refine zW.getf (v := .ref 7) rfl rfl (zr_6_0 S) ?_
  refine zW.run 2 (pc' := 114) (ls' := [some (.ref 6), some (.int (Int32.ofInt x)), some (.int (Int32.ofInt 8)), some (.ref 8)]) (st' := [.int (Int32.ofInt x), .int (Int32.ofInt 0), .ref 7]) (σ' := (zN L X (zhi s) R G nc ns)) (fun n => rfl) ?_
  refine zW.callV rfl (by decide) rfl rfl rfl rfl rfl (Nat.le_of_ble_eq_true rfl) ?_
  refine t_Siege_menAt S V (x := 0) (y := x) (by omega) (by omega) (fun v_2 f3 f4 => ?_)
  show zW ro 30 117 [some (.ref 6), some (.int (Int32.ofInt x)), some (.int (Int32.ofInt 8)), some (.ref 8)] [.int (Int32.ofInt v_2)] (zN L X (zhi s) R G nc ns) Q
  exact zW.jret rfl rfl (hQ0 v_2 (by omega) (by omega))
set_option maxHeartbeats 4000000 in
theorem t_S_squareFact_9 (S : zSR R) (V : zV g U F T B ph s) {x : Int} (p0 : 0 ≤ x ∧ x < g 2) (hQ0 : ∀ (v : Int), 0 ≤ v ∧ v ≤ 2400 → v = zma s 1 x 12 → Q (.inl (some (.int (Int32.ofInt v)))) (zN L X (zhi s) R G nc ns)) : zW ro 30 0 (zfst [.ref 6, .int (Int32.ofInt x), .int (Int32.ofInt 9)] 4) [] (zN L X (zhi s) R G nc ns) Q := by
  show zW ro 30 0 [some (.ref 6), some (.int (Int32.ofInt x)), some (.int (Int32.ofInt 9)), none] [] (zN L X (zhi s) R G nc ns) Q
  have f1 := zA_geo (zV_zA V)
  have hB0 := zV_B V
  refine zW.run 1 (pc' := 1) (ls' := [some (.ref 6), some (.int (Int32.ofInt x)), some (.int (Int32.ofInt 9)), none]) (st' := [.ref 6]) (σ' := (zN L X (zhi s) R G nc ns)) (fun n => rfl) ?_
  refine zW.getf (v := .ref 7) rfl rfl (zr_6_0 S) ?_
  refine zW.getf (v := .ref 8) rfl rfl (zr_7_0 S) ?_
  refine zW.run 2 (pc' := 9) (ls' := [some (.ref 6), some (.int (Int32.ofInt x)), some (.int (Int32.ofInt 9)), some (.ref 8)]) (st' := [.int (Int32.ofInt 9)]) (σ' := (zN L X (zhi s) R G nc ns)) (fun n => rfl) ?_
  refine zW.go (pc' := 118) (ls' := [some (.ref 6), some (.int (Int32.ofInt x)), some (.int (Int32.ofInt 9)), some (.ref 8)]) (st' := []) (σ' := (zN L X (zhi s) R G nc ns)) rfl (fun rec => rfl) ?_
  refine zW.run 1 (pc' := 119) (ls' := [some (.ref 6), some (.int (Int32.ofInt x)), some (.int (Int32.ofInt 9)), some (.ref 8)]) (st' := [.ref 6]) (σ' := (zN L X (zhi s) R G nc ns)) (fun n => rfl) ?_
  refine zW.getf (v := .ref 7) rfl rfl (zr_6_0 S) ?_
  refine zW.run 2 (pc' := 124) (ls' := [some (.ref 6), some (.int (Int32.ofInt x)), some (.int (Int32.ofInt 9)), some (.ref 8)]) (st' := [.int (Int32.ofInt x), .int (Int32.ofInt 1), .ref 7]) (σ' := (zN L X (zhi s) R G nc ns)) (fun n => rfl) ?_
  refine zW.callV rfl (by decide) rfl rfl rfl rfl rfl (Nat.le_of_ble_eq_true rfl) ?_
  refine t_Siege_menAt S V (x := 1) (y := x) (by omega) (by omega) (fun v_2 f3 f4 => ?_)
  show zW ro 30 127 [some (.ref 6), some (.int (Int32.ofInt x)), some (.int (Int32.ofInt 9)), some (.ref 8)] [.int (Int32.ofInt v_2)] (zN L X (zhi s) R G nc ns) Q
  exact zW.jret rfl rfl (hQ0 v_2 (by omega) (by omega))
set_option maxHeartbeats 4000000 in
theorem t_S_squareFact (S : zSR R) (V : zV g U F T B ph s) {x : Int} {d : Int} (p0 : 0 ≤ x ∧ x < g 2) (p1 : -2147483648 ≤ d ∧ d < 2147483648) (hQ0 : ∀ (v : Int), Q (.inl (some (.int (Int32.ofInt v)))) (zN L X (zhi s) R G nc ns)) : zW ro 30 0 (zfst [.ref 6, .int (Int32.ofInt x), .int (Int32.ofInt d)] 4) [] (zN L X (zhi s) R G nc ns) Q := by
  show zW ro 30 0 [some (.ref 6), some (.int (Int32.ofInt x)), some (.int (Int32.ofInt d)), none] [] (zN L X (zhi s) R G nc ns) Q
  have f1 := zA_geo (zV_zA V)
  have hB0 := zV_B V
  refine zW.run 1 (pc' := 1) (ls' := [some (.ref 6), some (.int (Int32.ofInt x)), some (.int (Int32.ofInt d)), none]) (st' := [.ref 6]) (σ' := (zN L X (zhi s) R G nc ns)) (fun n => rfl) ?_
  refine zW.getf (v := .ref 7) rfl rfl (zr_6_0 S) ?_
  refine zW.getf (v := .ref 8) rfl rfl (zr_7_0 S) ?_
  refine zW.run 2 (pc' := 9) (ls' := [some (.ref 6), some (.int (Int32.ofInt x)), some (.int (Int32.ofInt d)), some (.ref 8)]) (st' := [.int (Int32.ofInt d)]) (σ' := (zN L X (zhi s) R G nc ns)) (fun n => rfl) ?_
  refine zW.jtab rfl (by omega) (fun d2 => ?_) (fun j9 t9 d2 f9 => ?_) (by decide)
  · skip
    refine zW.run 1 (pc' := 119) (ls' := [some (.ref 6), some (.int (Int32.ofInt x)), some (.int (Int32.ofInt d)), some (.ref 8)]) (st' := [.ref 6]) (σ' := (zN L X (zhi s) R G nc ns)) (fun n => rfl) ?_
    refine zW.getf (v := .ref 7) rfl rfl (zr_6_0 S) ?_
    refine zW.run 2 (pc' := 124) (ls' := [some (.ref 6), some (.int (Int32.ofInt x)), some (.int (Int32.ofInt d)), some (.ref 8)]) (st' := [.int (Int32.ofInt x), .int (Int32.ofInt 1), .ref 7]) (σ' := (zN L X (zhi s) R G nc ns)) (fun n => rfl) ?_
    refine zW.callV rfl (by decide) rfl rfl rfl rfl rfl (Nat.le_of_ble_eq_true rfl) ?_
    refine t_Siege_menAt S V (x := 1) (y := x) (by omega) (by omega) (fun v_3 f4 f5 => ?_)
    show zW ro 30 127 [some (.ref 6), some (.int (Int32.ofInt x)), some (.int (Int32.ofInt d)), some (.ref 8)] [.int (Int32.ofInt v_3)] (zN L X (zhi s) R G nc ns) Q
    exact zW.jret rfl rfl (hQ0 v_3)
  match j9, d2, f9 with
  | 0, d2, f9 =>
    cases f9
    refine zW.run 2 (pc' := 62) (ls' := [some (.ref 6), some (.int (Int32.ofInt x)), some (.int (Int32.ofInt d)), some (.ref 8)]) (st' := [.int (Int32.ofInt x), .ref 8]) (σ' := (zN L X (zhi s) R G nc ns)) (fun n => rfl) ?_
    refine zW.callV rfl (by decide) rfl rfl rfl rfl rfl (Nat.le_of_ble_eq_true rfl) ?_
    refine t_Ground_heightOf_e S V (x := x) (by omega) ?_
    show zW ro 30 65 [some (.ref 6), some (.int (Int32.ofInt x)), some (.int (Int32.ofInt d)), some (.ref 8)] [.int (Int32.ofInt (s 9 x.toNat))] (zN L X (zhi s) R G nc ns) Q
    have f6 := zV_sq V (k := x.toNat) (by omega)
    exact zW.jret rfl rfl (hQ0 (s 9 x.toNat))
  | 1, d2, f9 =>
    cases f9
    refine zW.run 2 (pc' := 68) (ls' := [some (.ref 6), some (.int (Int32.ofInt x)), some (.int (Int32.ofInt d)), some (.ref 8)]) (st' := [.int (Int32.ofInt x), .ref 8]) (σ' := (zN L X (zhi s) R G nc ns)) (fun n => rfl) ?_
    refine zW.callV rfl (by decide) rfl rfl rfl rfl rfl (Nat.le_of_ble_eq_true rfl) ?_
    refine t_Ground_soilOf_e S V (x := x) (by omega) ?_
    show zW ro 30 71 [some (.ref 6), some (.int (Int32.ofInt x)), some (.int (Int32.ofInt d)), some (.ref 8)] [.int (Int32.ofInt (s 10 x.toNat))] (zN L X (zhi s) R G nc ns) Q
    have f7 := zV_sq V (k := x.toNat) (by omega)
    exact zW.jret rfl rfl (hQ0 (s 10 x.toNat))
  | 2, d2, f9 =>
    cases f9
    refine zW.run 2 (pc' := 74) (ls' := [some (.ref 6), some (.int (Int32.ofInt x)), some (.int (Int32.ofInt d)), some (.ref 8)]) (st' := [.int (Int32.ofInt x), .ref 8]) (σ' := (zN L X (zhi s) R G nc ns)) (fun n => rfl) ?_
    refine zW.callV rfl (by decide) rfl rfl rfl rfl rfl (Nat.le_of_ble_eq_true rfl) ?_
    refine t_Ground_workOf_e S V (x := x) (by omega) ?_
    show zW ro 30 77 [some (.ref 6), some (.int (Int32.ofInt x)), some (.int (Int32.ofInt d)), some (.ref 8)] [.int (Int32.ofInt (s 11 x.toNat))] (zN L X (zhi s) R G nc ns) Q
    have f8 := zV_sq V (k := x.toNat) (by omega)
    exact zW.jret rfl rfl (hQ0 (s 11 x.toNat))
  | 3, d2, f9 =>
    cases f9
    refine zW.run 2 (pc' := 80) (ls' := [some (.ref 6), some (.int (Int32.ofInt x)), some (.int (Int32.ofInt d)), some (.ref 8)]) (st' := [.int (Int32.ofInt x), .ref 8]) (σ' := (zN L X (zhi s) R G nc ns)) (fun n => rfl) ?_
    refine zW.callV rfl (by decide) rfl rfl rfl rfl rfl (Nat.le_of_ble_eq_true rfl) ?_
    refine t_Ground_firmOf_e S V (x := x) (by omega) (fun v_9 f10 => ?_)
    show zW ro 30 83 [some (.ref 6), some (.int (Int32.ofInt x)), some (.int (Int32.ofInt d)), some (.ref 8)] [.int (Int32.ofInt v_9)] (zN L X (zhi s) R G nc ns) Q
    have f11 := zV_sq V (k := x.toNat) (by omega)
    exact zW.jret rfl rfl (hQ0 v_9)
  | 4, d2, f9 =>
    cases f9
    refine zW.run 2 (pc' := 86) (ls' := [some (.ref 6), some (.int (Int32.ofInt x)), some (.int (Int32.ofInt d)), some (.ref 8)]) (st' := [.int (Int32.ofInt x), .ref 8]) (σ' := (zN L X (zhi s) R G nc ns)) (fun n => rfl) ?_
    refine zW.callV rfl (by decide) rfl rfl rfl rfl rfl (Nat.le_of_ble_eq_true rfl) ?_
    refine t_Ground_toilOf_e S V (x := x) (by omega) ?_
    show zW ro 30 89 [some (.ref 6), some (.int (Int32.ofInt x)), some (.int (Int32.ofInt d)), some (.ref 8)] [.int (Int32.ofInt (s 13 x.toNat))] (zN L X (zhi s) R G nc ns) Q
    have f12 := zV_sq V (k := x.toNat) (by omega)
    exact zW.jret rfl rfl (hQ0 (s 13 x.toNat))
  | 5, d2, f9 =>
    cases f9
    refine zW.run 2 (pc' := 92) (ls' := [some (.ref 6), some (.int (Int32.ofInt x)), some (.int (Int32.ofInt d)), some (.ref 8)]) (st' := [.int (Int32.ofInt x), .ref 8]) (σ' := (zN L X (zhi s) R G nc ns)) (fun n => rfl) ?_
    refine zW.callV rfl (by decide) rfl rfl rfl rfl rfl (Nat.le_of_ble_eq_true rfl) ?_
    refine t_Ground_topOf_e S V (x := x) (by omega) (fun v_13 f14 => ?_)
    show zW ro 30 95 [some (.ref 6), some (.int (Int32.ofInt x)), some (.int (Int32.ofInt d)), some (.ref 8)] [.int (Int32.ofInt v_13)] (zN L X (zhi s) R G nc ns) Q
    have f15 := zV_sq V (k := x.toNat) (by omega)
    exact zW.jret rfl rfl (hQ0 v_13)
  | 6, d2, f9 =>
    cases f9
    refine zW.run 2 (pc' := 98) (ls' := [some (.ref 6), some (.int (Int32.ofInt x)), some (.int (Int32.ofInt d)), some (.ref 8)]) (st' := [.int (Int32.ofInt x), .ref 8]) (σ' := (zN L X (zhi s) R G nc ns)) (fun n => rfl) ?_
    refine zW.callV rfl (by decide) rfl rfl rfl rfl rfl (Nat.le_of_ble_eq_true rfl) ?_
    refine t_Ground_bodyOf_e S V (x := x) (by omega) (fun t_16 v_17 f18 f19 => ?_)
    show zW ro 30 101 [some (.ref 6), some (.int (Int32.ofInt x)), some (.int (Int32.ofInt d)), some (.ref 8)] [.int (Int32.ofInt v_17)] (zN L X (zhi s) R G nc ns) Q
    have f20 := zV_sq V (k := x.toNat) (by omega)
    exact zW.jret rfl rfl (hQ0 v_17)
  | 7, d2, f9 =>
    cases f9
    refine zW.run 2 (pc' := 104) (ls' := [some (.ref 6), some (.int (Int32.ofInt x)), some (.int (Int32.ofInt d)), some (.ref 8)]) (st' := [.int (Int32.ofInt x), .ref 8]) (σ' := (zN L X (zhi s) R G nc ns)) (fun n => rfl) ?_
    refine zW.callV rfl (by decide) rfl rfl rfl rfl rfl (Nat.le_of_ble_eq_true rfl) ?_
    refine t_Ground_belongsTo_e S V (x := x) (by omega) (fun v_21 f22 => ?_)
    show zW ro 30 107 [some (.ref 6), some (.int (Int32.ofInt x)), some (.int (Int32.ofInt d)), some (.ref 8)] [.int (Int32.ofInt v_21)] (zN L X (zhi s) R G nc ns) Q
    have f23 := zV_sq V (k := x.toNat) (by omega)
    exact zW.jret rfl rfl (hQ0 v_21)
  | 8, d2, f9 =>
    cases f9
    refine zW.run 1 (pc' := 109) (ls' := [some (.ref 6), some (.int (Int32.ofInt x)), some (.int (Int32.ofInt d)), some (.ref 8)]) (st' := [.ref 6]) (σ' := (zN L X (zhi s) R G nc ns)) (fun n => rfl) ?_
    refine zW.getf (v := .ref 7) rfl rfl (zr_6_0 S) ?_
    refine zW.run 2 (pc' := 114) (ls' := [some (.ref 6), some (.int (Int32.ofInt x)), some (.int (Int32.ofInt d)), some (.ref 8)]) (st' := [.int (Int32.ofInt x), .int (Int32.ofInt 0), .ref 7]) (σ' := (zN L X (zhi s) R G nc ns)) (fun n => rfl) ?_
    refine zW.callV rfl (by decide) rfl rfl rfl rfl rfl (Nat.le_of_ble_eq_true rfl) ?_
    refine t_Siege_menAt S V (x := 0) (y := x) (by omega) (by omega) (fun v_24 f25 f26 => ?_)
    show zW ro 30 117 [some (.ref 6), some (.int (Int32.ofInt x)), some (.int (Int32.ofInt d)), some (.ref 8)] [.int (Int32.ofInt v_24)] (zN L X (zhi s) R G nc ns) Q
    exact zW.jret rfl rfl (hQ0 v_24)
  | n9 + 9, e9, f9 => cases f9
set_option maxHeartbeats 4000000 in
theorem t_S_gunFact_0 (S : zSR R) (V : zV g U F T B ph s) {i : Nat} (p0 : i < 16) (hQ0 : Q (.inl (some (.int (Int32.ofInt (s (26 + i) 0))))) (zN L X (zhi s) R G nc ns)) : zW ro 7 0 (zfst [.ref 6, .ref (26 + i), .int (Int32.ofInt 0)] 3) [] (zN L X (zhi s) R G nc ns) Q := by
  show zW ro 7 0 [some (.ref 6), some (.ref (26 + i)), some (.int (Int32.ofInt 0))] [] (zN L X (zhi s) R G nc ns) Q
  have f1 := zA_geo (zV_zA V)
  have hB0 := zV_B V
  refine zW.run 1 (pc' := 1) (ls' := [some (.ref 6), some (.ref (26 + i)), some (.int (Int32.ofInt 0))]) (st' := [.int (Int32.ofInt 0)]) (σ' := (zN L X (zhi s) R G nc ns)) (fun n => rfl) ?_
  refine zW.go (pc' := 44) (ls' := [some (.ref 6), some (.ref (26 + i)), some (.int (Int32.ofInt 0))]) (st' := []) (σ' := (zN L X (zhi s) R G nc ns)) rfl (fun rec => rfl) ?_
  refine zW.run 1 (pc' := 45) (ls' := [some (.ref 6), some (.ref (26 + i)), some (.int (Int32.ofInt 0))]) (st' := [.ref (26 + i)]) (σ' := (zN L X (zhi s) R G nc ns)) (fun n => rfl) ?_
  have f2 := zV_gun V (i := i) (by omega)
  refine zW.jget (v := (s (26 + i) 0)) rfl (zk_gun (by omega)) (fun _ _ _ => rfl) rfl ?_
  exact zW.jret rfl rfl hQ0
set_option maxHeartbeats 4000000 in
theorem t_S_gunFact_1 (S : zSR R) (V : zV g U F T B ph s) {i : Nat} (p0 : i < 16) (hQ0 : Q (.inl (some (.int (Int32.ofInt (s (26 + i) 1))))) (zN L X (zhi s) R G nc ns)) : zW ro 7 0 (zfst [.ref 6, .ref (26 + i), .int (Int32.ofInt 1)] 3) [] (zN L X (zhi s) R G nc ns) Q := by
  show zW ro 7 0 [some (.ref 6), some (.ref (26 + i)), some (.int (Int32.ofInt 1))] [] (zN L X (zhi s) R G nc ns) Q
  have f1 := zA_geo (zV_zA V)
  have hB0 := zV_B V
  refine zW.run 1 (pc' := 1) (ls' := [some (.ref 6), some (.ref (26 + i)), some (.int (Int32.ofInt 1))]) (st' := [.int (Int32.ofInt 1)]) (σ' := (zN L X (zhi s) R G nc ns)) (fun n => rfl) ?_
  refine zW.go (pc' := 49) (ls' := [some (.ref 6), some (.ref (26 + i)), some (.int (Int32.ofInt 1))]) (st' := []) (σ' := (zN L X (zhi s) R G nc ns)) rfl (fun rec => rfl) ?_
  refine zW.run 1 (pc' := 50) (ls' := [some (.ref 6), some (.ref (26 + i)), some (.int (Int32.ofInt 1))]) (st' := [.ref (26 + i)]) (σ' := (zN L X (zhi s) R G nc ns)) (fun n => rfl) ?_
  have f2 := zV_gun V (i := i) (by omega)
  refine zW.jget (v := (s (26 + i) 1)) rfl (zk_gun (by omega)) (fun _ _ _ => rfl) rfl ?_
  exact zW.jret rfl rfl hQ0
set_option maxHeartbeats 4000000 in
theorem t_S_gunFact_2 (S : zSR R) (V : zV g U F T B ph s) {i : Nat} (p0 : i < 16) (hQ0 : Q (.inl (some (.int (Int32.ofInt (s (26 + i) 2))))) (zN L X (zhi s) R G nc ns)) : zW ro 7 0 (zfst [.ref 6, .ref (26 + i), .int (Int32.ofInt 2)] 3) [] (zN L X (zhi s) R G nc ns) Q := by
  show zW ro 7 0 [some (.ref 6), some (.ref (26 + i)), some (.int (Int32.ofInt 2))] [] (zN L X (zhi s) R G nc ns) Q
  have f1 := zA_geo (zV_zA V)
  have hB0 := zV_B V
  refine zW.run 1 (pc' := 1) (ls' := [some (.ref 6), some (.ref (26 + i)), some (.int (Int32.ofInt 2))]) (st' := [.int (Int32.ofInt 2)]) (σ' := (zN L X (zhi s) R G nc ns)) (fun n => rfl) ?_
  refine zW.go (pc' := 54) (ls' := [some (.ref 6), some (.ref (26 + i)), some (.int (Int32.ofInt 2))]) (st' := []) (σ' := (zN L X (zhi s) R G nc ns)) rfl (fun rec => rfl) ?_
  refine zW.run 1 (pc' := 55) (ls' := [some (.ref 6), some (.ref (26 + i)), some (.int (Int32.ofInt 2))]) (st' := [.ref (26 + i)]) (σ' := (zN L X (zhi s) R G nc ns)) (fun n => rfl) ?_
  have f2 := zV_gun V (i := i) (by omega)
  refine zW.jget (v := (s (26 + i) 2)) rfl (zk_gun (by omega)) (fun _ _ _ => rfl) rfl ?_
  exact zW.jret rfl rfl hQ0
set_option maxHeartbeats 4000000 in
theorem t_S_gunFact_3 (S : zSR R) (V : zV g U F T B ph s) {i : Nat} (p0 : i < 16) (hQ0 : Q (.inl (some (.int (Int32.ofInt (s (26 + i) 3))))) (zN L X (zhi s) R G nc ns)) : zW ro 7 0 (zfst [.ref 6, .ref (26 + i), .int (Int32.ofInt 3)] 3) [] (zN L X (zhi s) R G nc ns) Q := by
  show zW ro 7 0 [some (.ref 6), some (.ref (26 + i)), some (.int (Int32.ofInt 3))] [] (zN L X (zhi s) R G nc ns) Q
  have f1 := zA_geo (zV_zA V)
  have hB0 := zV_B V
  refine zW.run 1 (pc' := 1) (ls' := [some (.ref 6), some (.ref (26 + i)), some (.int (Int32.ofInt 3))]) (st' := [.int (Int32.ofInt 3)]) (σ' := (zN L X (zhi s) R G nc ns)) (fun n => rfl) ?_
  refine zW.go (pc' := 59) (ls' := [some (.ref 6), some (.ref (26 + i)), some (.int (Int32.ofInt 3))]) (st' := []) (σ' := (zN L X (zhi s) R G nc ns)) rfl (fun rec => rfl) ?_
  refine zW.run 1 (pc' := 60) (ls' := [some (.ref 6), some (.ref (26 + i)), some (.int (Int32.ofInt 3))]) (st' := [.ref (26 + i)]) (σ' := (zN L X (zhi s) R G nc ns)) (fun n => rfl) ?_
  have f2 := zV_gun V (i := i) (by omega)
  refine zW.jget (v := (s (26 + i) 3)) rfl (zk_gun (by omega)) (fun _ _ _ => rfl) rfl ?_
  exact zW.jret rfl rfl hQ0
set_option maxHeartbeats 4000000 in
theorem t_S_gunFact_4 (S : zSR R) (V : zV g U F T B ph s) {i : Nat} (p0 : i < 16) (hQ0 : Q (.inl (some (.int (Int32.ofInt (s (26 + i) 4))))) (zN L X (zhi s) R G nc ns)) : zW ro 7 0 (zfst [.ref 6, .ref (26 + i), .int (Int32.ofInt 4)] 3) [] (zN L X (zhi s) R G nc ns) Q := by
  show zW ro 7 0 [some (.ref 6), some (.ref (26 + i)), some (.int (Int32.ofInt 4))] [] (zN L X (zhi s) R G nc ns) Q
  have f1 := zA_geo (zV_zA V)
  have hB0 := zV_B V
  refine zW.run 1 (pc' := 1) (ls' := [some (.ref 6), some (.ref (26 + i)), some (.int (Int32.ofInt 4))]) (st' := [.int (Int32.ofInt 4)]) (σ' := (zN L X (zhi s) R G nc ns)) (fun n => rfl) ?_
  refine zW.go (pc' := 64) (ls' := [some (.ref 6), some (.ref (26 + i)), some (.int (Int32.ofInt 4))]) (st' := []) (σ' := (zN L X (zhi s) R G nc ns)) rfl (fun rec => rfl) ?_
  refine zW.run 1 (pc' := 65) (ls' := [some (.ref 6), some (.ref (26 + i)), some (.int (Int32.ofInt 4))]) (st' := [.ref (26 + i)]) (σ' := (zN L X (zhi s) R G nc ns)) (fun n => rfl) ?_
  have f2 := zV_gun V (i := i) (by omega)
  refine zW.jget (v := (s (26 + i) 4)) rfl (zk_gun (by omega)) (fun _ _ _ => rfl) rfl ?_
  exact zW.jret rfl rfl hQ0
set_option maxHeartbeats 4000000 in
theorem t_S_gunFact_5 (S : zSR R) (V : zV g U F T B ph s) {i : Nat} (p0 : i < 16) (hQ0 : Q (.inl (some (.int (Int32.ofInt (s (26 + i) 5))))) (zN L X (zhi s) R G nc ns)) : zW ro 7 0 (zfst [.ref 6, .ref (26 + i), .int (Int32.ofInt 5)] 3) [] (zN L X (zhi s) R G nc ns) Q := by
  show zW ro 7 0 [some (.ref 6), some (.ref (26 + i)), some (.int (Int32.ofInt 5))] [] (zN L X (zhi s) R G nc ns) Q
  have f1 := zA_geo (zV_zA V)
  have hB0 := zV_B V
  refine zW.run 1 (pc' := 1) (ls' := [some (.ref 6), some (.ref (26 + i)), some (.int (Int32.ofInt 5))]) (st' := [.int (Int32.ofInt 5)]) (σ' := (zN L X (zhi s) R G nc ns)) (fun n => rfl) ?_
  refine zW.go (pc' := 69) (ls' := [some (.ref 6), some (.ref (26 + i)), some (.int (Int32.ofInt 5))]) (st' := []) (σ' := (zN L X (zhi s) R G nc ns)) rfl (fun rec => rfl) ?_
  refine zW.run 1 (pc' := 70) (ls' := [some (.ref 6), some (.ref (26 + i)), some (.int (Int32.ofInt 5))]) (st' := [.ref (26 + i)]) (σ' := (zN L X (zhi s) R G nc ns)) (fun n => rfl) ?_
  have f2 := zV_gun V (i := i) (by omega)
  refine zW.jget (v := (s (26 + i) 5)) rfl (zk_gun (by omega)) (fun _ _ _ => rfl) rfl ?_
  exact zW.jret rfl rfl hQ0
set_option maxHeartbeats 4000000 in
theorem t_S_gunFact_6 (S : zSR R) (V : zV g U F T B ph s) {i : Nat} (p0 : i < 16) (hQ0 : Q (.inl (some (.int (Int32.ofInt (s (26 + i) 6))))) (zN L X (zhi s) R G nc ns)) : zW ro 7 0 (zfst [.ref 6, .ref (26 + i), .int (Int32.ofInt 6)] 3) [] (zN L X (zhi s) R G nc ns) Q := by
  show zW ro 7 0 [some (.ref 6), some (.ref (26 + i)), some (.int (Int32.ofInt 6))] [] (zN L X (zhi s) R G nc ns) Q
  have f1 := zA_geo (zV_zA V)
  have hB0 := zV_B V
  refine zW.run 1 (pc' := 1) (ls' := [some (.ref 6), some (.ref (26 + i)), some (.int (Int32.ofInt 6))]) (st' := [.int (Int32.ofInt 6)]) (σ' := (zN L X (zhi s) R G nc ns)) (fun n => rfl) ?_
  refine zW.go (pc' := 74) (ls' := [some (.ref 6), some (.ref (26 + i)), some (.int (Int32.ofInt 6))]) (st' := []) (σ' := (zN L X (zhi s) R G nc ns)) rfl (fun rec => rfl) ?_
  refine zW.run 1 (pc' := 75) (ls' := [some (.ref 6), some (.ref (26 + i)), some (.int (Int32.ofInt 6))]) (st' := [.ref (26 + i)]) (σ' := (zN L X (zhi s) R G nc ns)) (fun n => rfl) ?_
  have f2 := zV_gun V (i := i) (by omega)
  refine zW.jget (v := (s (26 + i) 6)) rfl (zk_gun (by omega)) (fun _ _ _ => rfl) rfl ?_
  exact zW.jret rfl rfl hQ0
set_option maxHeartbeats 4000000 in
theorem t_S_gunFact_7 (S : zSR R) (V : zV g U F T B ph s) {i : Nat} (p0 : i < 16) (hQ0 : ∀ (v : Int), 0 ≤ v ∧ v ≤ 4 - s (26 + i) 3 → (0 < v → s (26 + i) 5 = 0 ∧ 0 ≤ s (26 + i) 6 ∧ ¬ s (26 + i) 0 = -1) → (s (26 + i) 0 = 1 → v * s (26 + i) 2 ≤ s 22 0) → (¬ s (26 + i) 0 = 1 → v * s (26 + i) 2 ≤ s 21 0) → Q (.inl (some (.int (Int32.ofInt v)))) (zN L X (zhi s) R G nc ns)) : zW ro 7 0 (zfst [.ref 6, .ref (26 + i), .int (Int32.ofInt 7)] 3) [] (zN L X (zhi s) R G nc ns) Q := by
  show zW ro 7 0 [some (.ref 6), some (.ref (26 + i)), some (.int (Int32.ofInt 7))] [] (zN L X (zhi s) R G nc ns) Q
  have f1 := zA_geo (zV_zA V)
  have hB0 := zV_B V
  refine zW.run 1 (pc' := 1) (ls' := [some (.ref 6), some (.ref (26 + i)), some (.int (Int32.ofInt 7))]) (st' := [.int (Int32.ofInt 7)]) (σ' := (zN L X (zhi s) R G nc ns)) (fun n => rfl) ?_
  refine zW.go (pc' := 79) (ls' := [some (.ref 6), some (.ref (26 + i)), some (.int (Int32.ofInt 7))]) (st' := []) (σ' := (zN L X (zhi s) R G nc ns)) rfl (fun rec => rfl) ?_
  refine zW.run 1 (pc' := 80) (ls' := [some (.ref 6), some (.ref (26 + i)), some (.int (Int32.ofInt 7))]) (st' := [.ref 6]) (σ' := (zN L X (zhi s) R G nc ns)) (fun n => rfl) ?_
  refine zW.getf (v := .ref 7) rfl rfl (zr_6_0 S) ?_
  refine zW.run 1 (pc' := 84) (ls' := [some (.ref 6), some (.ref (26 + i)), some (.int (Int32.ofInt 7))]) (st' := [.ref (26 + i), .ref 7]) (σ' := (zN L X (zhi s) R G nc ns)) (fun n => rfl) ?_
  refine zW.callS rfl rfl rfl rfl rfl (Nat.le_of_ble_eq_true rfl) ?_
  refine t_Gunnery_shotsOf S V (i := i) (by omega) (fun v_2 f3 f4 f5 f6 => ?_)
  show zW ro 7 87 [some (.ref 6), some (.ref (26 + i)), some (.int (Int32.ofInt 7))] [.int (Int32.ofInt v_2)] (zN L X (zhi s) R G nc ns) Q
  exact zW.jret rfl rfl (hQ0 v_2 (by omega) (by omega) (by omega) (by omega))
set_option maxHeartbeats 4000000 in
theorem t_S_gunFact (S : zSR R) (V : zV g U F T B ph s) {i : Nat} {d : Int} (p0 : i < 16) (p1 : -2147483648 ≤ d ∧ d < 2147483648) (hQ0 : ∀ (v : Int), Q (.inl (some (.int (Int32.ofInt v)))) (zN L X (zhi s) R G nc ns)) : zW ro 7 0 (zfst [.ref 6, .ref (26 + i), .int (Int32.ofInt d)] 3) [] (zN L X (zhi s) R G nc ns) Q := by
  show zW ro 7 0 [some (.ref 6), some (.ref (26 + i)), some (.int (Int32.ofInt d))] [] (zN L X (zhi s) R G nc ns) Q
  have f1 := zA_geo (zV_zA V)
  have hB0 := zV_B V
  refine zW.run 1 (pc' := 1) (ls' := [some (.ref 6), some (.ref (26 + i)), some (.int (Int32.ofInt d))]) (st' := [.int (Int32.ofInt d)]) (σ' := (zN L X (zhi s) R G nc ns)) (fun n => rfl) ?_
  refine zW.jtab rfl (by omega) (fun d2 => ?_) (fun j9 t9 d2 f9 => ?_) (by decide)
  · skip
    refine zW.run 1 (pc' := 80) (ls' := [some (.ref 6), some (.ref (26 + i)), some (.int (Int32.ofInt d))]) (st' := [.ref 6]) (σ' := (zN L X (zhi s) R G nc ns)) (fun n => rfl) ?_
    refine zW.getf (v := .ref 7) rfl rfl (zr_6_0 S) ?_
    refine zW.run 1 (pc' := 84) (ls' := [some (.ref 6), some (.ref (26 + i)), some (.int (Int32.ofInt d))]) (st' := [.ref (26 + i), .ref 7]) (σ' := (zN L X (zhi s) R G nc ns)) (fun n => rfl) ?_
    refine zW.callS rfl rfl rfl rfl rfl (Nat.le_of_ble_eq_true rfl) ?_
    refine t_Gunnery_shotsOf S V (i := i) (by omega) (fun v_3 f4 f5 f6 f7 => ?_)
    show zW ro 7 87 [some (.ref 6), some (.ref (26 + i)), some (.int (Int32.ofInt d))] [.int (Int32.ofInt v_3)] (zN L X (zhi s) R G nc ns) Q
    exact zW.jret rfl rfl (hQ0 v_3)
  match j9, d2, f9 with
  | 0, d2, f9 =>
    cases f9
    refine zW.run 1 (pc' := 45) (ls' := [some (.ref 6), some (.ref (26 + i)), some (.int (Int32.ofInt d))]) (st' := [.ref (26 + i)]) (σ' := (zN L X (zhi s) R G nc ns)) (fun n => rfl) ?_
    have f8 := zV_gun V (i := i) (by omega)
    refine zW.jget (v := (s (26 + i) 0)) rfl (zk_gun (by omega)) (fun _ _ _ => rfl) rfl ?_
    exact zW.jret rfl rfl (hQ0 (s (26 + i) 0))
  | 1, d2, f9 =>
    cases f9
    refine zW.run 1 (pc' := 50) (ls' := [some (.ref 6), some (.ref (26 + i)), some (.int (Int32.ofInt d))]) (st' := [.ref (26 + i)]) (σ' := (zN L X (zhi s) R G nc ns)) (fun n => rfl) ?_
    have f9 := zV_gun V (i := i) (by omega)
    refine zW.jget (v := (s (26 + i) 1)) rfl (zk_gun (by omega)) (fun _ _ _ => rfl) rfl ?_
    exact zW.jret rfl rfl (hQ0 (s (26 + i) 1))
  | 2, d2, f9 =>
    cases f9
    refine zW.run 1 (pc' := 55) (ls' := [some (.ref 6), some (.ref (26 + i)), some (.int (Int32.ofInt d))]) (st' := [.ref (26 + i)]) (σ' := (zN L X (zhi s) R G nc ns)) (fun n => rfl) ?_
    have f10 := zV_gun V (i := i) (by omega)
    refine zW.jget (v := (s (26 + i) 2)) rfl (zk_gun (by omega)) (fun _ _ _ => rfl) rfl ?_
    exact zW.jret rfl rfl (hQ0 (s (26 + i) 2))
  | 3, d2, f9 =>
    cases f9
    refine zW.run 1 (pc' := 60) (ls' := [some (.ref 6), some (.ref (26 + i)), some (.int (Int32.ofInt d))]) (st' := [.ref (26 + i)]) (σ' := (zN L X (zhi s) R G nc ns)) (fun n => rfl) ?_
    have f11 := zV_gun V (i := i) (by omega)
    refine zW.jget (v := (s (26 + i) 3)) rfl (zk_gun (by omega)) (fun _ _ _ => rfl) rfl ?_
    exact zW.jret rfl rfl (hQ0 (s (26 + i) 3))
  | 4, d2, f9 =>
    cases f9
    refine zW.run 1 (pc' := 65) (ls' := [some (.ref 6), some (.ref (26 + i)), some (.int (Int32.ofInt d))]) (st' := [.ref (26 + i)]) (σ' := (zN L X (zhi s) R G nc ns)) (fun n => rfl) ?_
    have f12 := zV_gun V (i := i) (by omega)
    refine zW.jget (v := (s (26 + i) 4)) rfl (zk_gun (by omega)) (fun _ _ _ => rfl) rfl ?_
    exact zW.jret rfl rfl (hQ0 (s (26 + i) 4))
  | 5, d2, f9 =>
    cases f9
    refine zW.run 1 (pc' := 70) (ls' := [some (.ref 6), some (.ref (26 + i)), some (.int (Int32.ofInt d))]) (st' := [.ref (26 + i)]) (σ' := (zN L X (zhi s) R G nc ns)) (fun n => rfl) ?_
    have f13 := zV_gun V (i := i) (by omega)
    refine zW.jget (v := (s (26 + i) 5)) rfl (zk_gun (by omega)) (fun _ _ _ => rfl) rfl ?_
    exact zW.jret rfl rfl (hQ0 (s (26 + i) 5))
  | 6, d2, f9 =>
    cases f9
    refine zW.run 1 (pc' := 75) (ls' := [some (.ref 6), some (.ref (26 + i)), some (.int (Int32.ofInt d))]) (st' := [.ref (26 + i)]) (σ' := (zN L X (zhi s) R G nc ns)) (fun n => rfl) ?_
    have f14 := zV_gun V (i := i) (by omega)
    refine zW.jget (v := (s (26 + i) 6)) rfl (zk_gun (by omega)) (fun _ _ _ => rfl) rfl ?_
    exact zW.jret rfl rfl (hQ0 (s (26 + i) 6))
  | n9 + 7, e9, f9 => cases f9
set_option maxHeartbeats 4000000 in
theorem t_S_companyFact_0 (S : zSR R) (V : zV g U F T B ph s) {i : Nat} (p0 : i < 12) (hQ0 : Q (.inl (some (.int (Int32.ofInt (s (42 + i) 0))))) (zN L X (zhi s) R G nc ns)) : zW ro 5 0 (zfst [.ref 6, .ref (42 + i), .int (Int32.ofInt 0)] 3) [] (zN L X (zhi s) R G nc ns) Q := by
  show zW ro 5 0 [some (.ref 6), some (.ref (42 + i)), some (.int (Int32.ofInt 0))] [] (zN L X (zhi s) R G nc ns) Q
  have f1 := zA_geo (zV_zA V)
  have hB0 := zV_B V
  refine zW.run 1 (pc' := 1) (ls' := [some (.ref 6), some (.ref (42 + i)), some (.int (Int32.ofInt 0))]) (st' := [.int (Int32.ofInt 0)]) (σ' := (zN L X (zhi s) R G nc ns)) (fun n => rfl) ?_
  refine zW.go (pc' := 40) (ls' := [some (.ref 6), some (.ref (42 + i)), some (.int (Int32.ofInt 0))]) (st' := []) (σ' := (zN L X (zhi s) R G nc ns)) rfl (fun rec => rfl) ?_
  refine zW.run 1 (pc' := 41) (ls' := [some (.ref 6), some (.ref (42 + i)), some (.int (Int32.ofInt 0))]) (st' := [.ref (42 + i)]) (σ' := (zN L X (zhi s) R G nc ns)) (fun n => rfl) ?_
  have f2 := zV_com V (i := i) (by omega)
  refine zW.jget (v := (s (42 + i) 0)) rfl (zk_com (by omega)) (fun _ _ _ => rfl) rfl ?_
  exact zW.jret rfl rfl hQ0
set_option maxHeartbeats 4000000 in
theorem t_S_companyFact_1 (S : zSR R) (V : zV g U F T B ph s) {i : Nat} (p0 : i < 12) (hQ0 : Q (.inl (some (.int (Int32.ofInt (s (42 + i) 1))))) (zN L X (zhi s) R G nc ns)) : zW ro 5 0 (zfst [.ref 6, .ref (42 + i), .int (Int32.ofInt 1)] 3) [] (zN L X (zhi s) R G nc ns) Q := by
  show zW ro 5 0 [some (.ref 6), some (.ref (42 + i)), some (.int (Int32.ofInt 1))] [] (zN L X (zhi s) R G nc ns) Q
  have f1 := zA_geo (zV_zA V)
  have hB0 := zV_B V
  refine zW.run 1 (pc' := 1) (ls' := [some (.ref 6), some (.ref (42 + i)), some (.int (Int32.ofInt 1))]) (st' := [.int (Int32.ofInt 1)]) (σ' := (zN L X (zhi s) R G nc ns)) (fun n => rfl) ?_
  refine zW.go (pc' := 45) (ls' := [some (.ref 6), some (.ref (42 + i)), some (.int (Int32.ofInt 1))]) (st' := []) (σ' := (zN L X (zhi s) R G nc ns)) rfl (fun rec => rfl) ?_
  refine zW.run 1 (pc' := 46) (ls' := [some (.ref 6), some (.ref (42 + i)), some (.int (Int32.ofInt 1))]) (st' := [.ref (42 + i)]) (σ' := (zN L X (zhi s) R G nc ns)) (fun n => rfl) ?_
  have f2 := zV_com V (i := i) (by omega)
  refine zW.jget (v := (s (42 + i) 1)) rfl (zk_com (by omega)) (fun _ _ _ => rfl) rfl ?_
  exact zW.jret rfl rfl hQ0
set_option maxHeartbeats 4000000 in
theorem t_S_companyFact_2 (S : zSR R) (V : zV g U F T B ph s) {i : Nat} (p0 : i < 12) (hQ0 : Q (.inl (some (.int (Int32.ofInt (s (42 + i) 2))))) (zN L X (zhi s) R G nc ns)) : zW ro 5 0 (zfst [.ref 6, .ref (42 + i), .int (Int32.ofInt 2)] 3) [] (zN L X (zhi s) R G nc ns) Q := by
  show zW ro 5 0 [some (.ref 6), some (.ref (42 + i)), some (.int (Int32.ofInt 2))] [] (zN L X (zhi s) R G nc ns) Q
  have f1 := zA_geo (zV_zA V)
  have hB0 := zV_B V
  refine zW.run 1 (pc' := 1) (ls' := [some (.ref 6), some (.ref (42 + i)), some (.int (Int32.ofInt 2))]) (st' := [.int (Int32.ofInt 2)]) (σ' := (zN L X (zhi s) R G nc ns)) (fun n => rfl) ?_
  refine zW.go (pc' := 50) (ls' := [some (.ref 6), some (.ref (42 + i)), some (.int (Int32.ofInt 2))]) (st' := []) (σ' := (zN L X (zhi s) R G nc ns)) rfl (fun rec => rfl) ?_
  refine zW.run 1 (pc' := 51) (ls' := [some (.ref 6), some (.ref (42 + i)), some (.int (Int32.ofInt 2))]) (st' := [.ref (42 + i)]) (σ' := (zN L X (zhi s) R G nc ns)) (fun n => rfl) ?_
  have f2 := zV_com V (i := i) (by omega)
  refine zW.jget (v := (s (42 + i) 2)) rfl (zk_com (by omega)) (fun _ _ _ => rfl) rfl ?_
  exact zW.jret rfl rfl hQ0
set_option maxHeartbeats 4000000 in
theorem t_S_companyFact_3 (S : zSR R) (V : zV g U F T B ph s) {i : Nat} (p0 : i < 12) (hQ0 : Q (.inl (some (.int (Int32.ofInt (s (42 + i) 3))))) (zN L X (zhi s) R G nc ns)) : zW ro 5 0 (zfst [.ref 6, .ref (42 + i), .int (Int32.ofInt 3)] 3) [] (zN L X (zhi s) R G nc ns) Q := by
  show zW ro 5 0 [some (.ref 6), some (.ref (42 + i)), some (.int (Int32.ofInt 3))] [] (zN L X (zhi s) R G nc ns) Q
  have f1 := zA_geo (zV_zA V)
  have hB0 := zV_B V
  refine zW.run 1 (pc' := 1) (ls' := [some (.ref 6), some (.ref (42 + i)), some (.int (Int32.ofInt 3))]) (st' := [.int (Int32.ofInt 3)]) (σ' := (zN L X (zhi s) R G nc ns)) (fun n => rfl) ?_
  refine zW.go (pc' := 55) (ls' := [some (.ref 6), some (.ref (42 + i)), some (.int (Int32.ofInt 3))]) (st' := []) (σ' := (zN L X (zhi s) R G nc ns)) rfl (fun rec => rfl) ?_
  refine zW.run 1 (pc' := 56) (ls' := [some (.ref 6), some (.ref (42 + i)), some (.int (Int32.ofInt 3))]) (st' := [.ref (42 + i)]) (σ' := (zN L X (zhi s) R G nc ns)) (fun n => rfl) ?_
  have f2 := zV_com V (i := i) (by omega)
  refine zW.jget (v := (s (42 + i) 3)) rfl (zk_com (by omega)) (fun _ _ _ => rfl) rfl ?_
  exact zW.jret rfl rfl hQ0
set_option maxHeartbeats 4000000 in
theorem t_S_companyFact_4 (S : zSR R) (V : zV g U F T B ph s) {i : Nat} (p0 : i < 12) (hQ0 : Q (.inl (some (.int (Int32.ofInt (s (42 + i) 4))))) (zN L X (zhi s) R G nc ns)) : zW ro 5 0 (zfst [.ref 6, .ref (42 + i), .int (Int32.ofInt 4)] 3) [] (zN L X (zhi s) R G nc ns) Q := by
  show zW ro 5 0 [some (.ref 6), some (.ref (42 + i)), some (.int (Int32.ofInt 4))] [] (zN L X (zhi s) R G nc ns) Q
  have f1 := zA_geo (zV_zA V)
  have hB0 := zV_B V
  refine zW.run 1 (pc' := 1) (ls' := [some (.ref 6), some (.ref (42 + i)), some (.int (Int32.ofInt 4))]) (st' := [.int (Int32.ofInt 4)]) (σ' := (zN L X (zhi s) R G nc ns)) (fun n => rfl) ?_
  refine zW.go (pc' := 60) (ls' := [some (.ref 6), some (.ref (42 + i)), some (.int (Int32.ofInt 4))]) (st' := []) (σ' := (zN L X (zhi s) R G nc ns)) rfl (fun rec => rfl) ?_
  refine zW.run 1 (pc' := 61) (ls' := [some (.ref 6), some (.ref (42 + i)), some (.int (Int32.ofInt 4))]) (st' := [.ref (42 + i)]) (σ' := (zN L X (zhi s) R G nc ns)) (fun n => rfl) ?_
  have f2 := zV_com V (i := i) (by omega)
  refine zW.jget (v := (s (42 + i) 4)) rfl (zk_com (by omega)) (fun _ _ _ => rfl) rfl ?_
  exact zW.jret rfl rfl hQ0
set_option maxHeartbeats 4000000 in
theorem t_S_companyFact_5 (S : zSR R) (V : zV g U F T B ph s) {i : Nat} (p0 : i < 12) (hQ0 : Q (.inl (some (.int (Int32.ofInt (s (42 + i) 5))))) (zN L X (zhi s) R G nc ns)) : zW ro 5 0 (zfst [.ref 6, .ref (42 + i), .int (Int32.ofInt 5)] 3) [] (zN L X (zhi s) R G nc ns) Q := by
  show zW ro 5 0 [some (.ref 6), some (.ref (42 + i)), some (.int (Int32.ofInt 5))] [] (zN L X (zhi s) R G nc ns) Q
  have f1 := zA_geo (zV_zA V)
  have hB0 := zV_B V
  refine zW.run 1 (pc' := 1) (ls' := [some (.ref 6), some (.ref (42 + i)), some (.int (Int32.ofInt 5))]) (st' := [.int (Int32.ofInt 5)]) (σ' := (zN L X (zhi s) R G nc ns)) (fun n => rfl) ?_
  refine zW.go (pc' := 65) (ls' := [some (.ref 6), some (.ref (42 + i)), some (.int (Int32.ofInt 5))]) (st' := []) (σ' := (zN L X (zhi s) R G nc ns)) rfl (fun rec => rfl) ?_
  refine zW.run 1 (pc' := 66) (ls' := [some (.ref 6), some (.ref (42 + i)), some (.int (Int32.ofInt 5))]) (st' := [.ref (42 + i)]) (σ' := (zN L X (zhi s) R G nc ns)) (fun n => rfl) ?_
  have f2 := zV_com V (i := i) (by omega)
  refine zW.jget (v := (s (42 + i) 5)) rfl (zk_com (by omega)) (fun _ _ _ => rfl) rfl ?_
  exact zW.jret rfl rfl hQ0
set_option maxHeartbeats 4000000 in
theorem t_S_companyFact_6 (S : zSR R) (V : zV g U F T B ph s) {i : Nat} (p0 : i < 12) (hQ0 : ∀ (o : Nat) (w : Int) (v : Int), s (42 + i) 0 = 1 ∧ o = 22 ∨ ¬ s (42 + i) 0 = 1 ∧ o = 21 → w = s (42 + i) 2 * (14 - s (42 + i) 3) * (s o 3 + 50) → 0 ≤ w ∧ w ≤ 420000 → v = w / 100 → Q (.inl (some (.int (Int32.ofInt v)))) (zN L X (zhi s) R G nc ns)) : zW ro 5 0 (zfst [.ref 6, .ref (42 + i), .int (Int32.ofInt 6)] 3) [] (zN L X (zhi s) R G nc ns) Q := by
  show zW ro 5 0 [some (.ref 6), some (.ref (42 + i)), some (.int (Int32.ofInt 6))] [] (zN L X (zhi s) R G nc ns) Q
  have f1 := zA_geo (zV_zA V)
  have hB0 := zV_B V
  refine zW.run 1 (pc' := 1) (ls' := [some (.ref 6), some (.ref (42 + i)), some (.int (Int32.ofInt 6))]) (st' := [.int (Int32.ofInt 6)]) (σ' := (zN L X (zhi s) R G nc ns)) (fun n => rfl) ?_
  refine zW.go (pc' := 70) (ls' := [some (.ref 6), some (.ref (42 + i)), some (.int (Int32.ofInt 6))]) (st' := []) (σ' := (zN L X (zhi s) R G nc ns)) rfl (fun rec => rfl) ?_
  refine zW.run 1 (pc' := 71) (ls' := [some (.ref 6), some (.ref (42 + i)), some (.int (Int32.ofInt 6))]) (st' := [.ref 6]) (σ' := (zN L X (zhi s) R G nc ns)) (fun n => rfl) ?_
  refine zW.getf (v := .ref 7) rfl rfl (zr_6_0 S) ?_
  refine zW.run 1 (pc' := 75) (ls' := [some (.ref 6), some (.ref (42 + i)), some (.int (Int32.ofInt 6))]) (st' := [.ref (42 + i), .ref 7]) (σ' := (zN L X (zhi s) R G nc ns)) (fun n => rfl) ?_
  refine zW.callV rfl (by decide) rfl rfl rfl rfl rfl (Nat.le_of_ble_eq_true rfl) ?_
  refine t_Siege_forceOf S V (i := i) (by omega) (fun o_2 v_3 f4 f5 f6 => ?_)
  show zW ro 5 78 [some (.ref 6), some (.ref (42 + i)), some (.int (Int32.ofInt 6))] [.int (Int32.ofInt v_3)] (zN L X (zhi s) R G nc ns) Q
  refine zW.run 1 (pc' := 80) (ls' := [some (.ref 6), some (.ref (42 + i)), some (.int (Int32.ofInt 6))]) (st' := [.int (Int32.ofInt 100), .int (Int32.ofInt v_3)]) (σ' := (zN L X (zhi s) R G nc ns)) (fun n => rfl) ?_
  refine zW.jdiv rfl (by omega) ?_
  exact zW.jret rfl rfl (hQ0 o_2 v_3 (v_3 / 100) (by omega) (by omega) (by omega) (by omega))
set_option maxHeartbeats 4000000 in
theorem t_S_companyFact (S : zSR R) (V : zV g U F T B ph s) {i : Nat} {d : Int} (p0 : i < 12) (p1 : -2147483648 ≤ d ∧ d < 2147483648) (hQ0 : ∀ (v : Int), Q (.inl (some (.int (Int32.ofInt v)))) (zN L X (zhi s) R G nc ns)) : zW ro 5 0 (zfst [.ref 6, .ref (42 + i), .int (Int32.ofInt d)] 3) [] (zN L X (zhi s) R G nc ns) Q := by
  show zW ro 5 0 [some (.ref 6), some (.ref (42 + i)), some (.int (Int32.ofInt d))] [] (zN L X (zhi s) R G nc ns) Q
  have f1 := zA_geo (zV_zA V)
  have hB0 := zV_B V
  refine zW.run 1 (pc' := 1) (ls' := [some (.ref 6), some (.ref (42 + i)), some (.int (Int32.ofInt d))]) (st' := [.int (Int32.ofInt d)]) (σ' := (zN L X (zhi s) R G nc ns)) (fun n => rfl) ?_
  refine zW.jtab rfl (by omega) (fun d2 => ?_) (fun j9 t9 d2 f9 => ?_) (by decide)
  · skip
    refine zW.run 1 (pc' := 71) (ls' := [some (.ref 6), some (.ref (42 + i)), some (.int (Int32.ofInt d))]) (st' := [.ref 6]) (σ' := (zN L X (zhi s) R G nc ns)) (fun n => rfl) ?_
    refine zW.getf (v := .ref 7) rfl rfl (zr_6_0 S) ?_
    refine zW.run 1 (pc' := 75) (ls' := [some (.ref 6), some (.ref (42 + i)), some (.int (Int32.ofInt d))]) (st' := [.ref (42 + i), .ref 7]) (σ' := (zN L X (zhi s) R G nc ns)) (fun n => rfl) ?_
    refine zW.callV rfl (by decide) rfl rfl rfl rfl rfl (Nat.le_of_ble_eq_true rfl) ?_
    refine t_Siege_forceOf S V (i := i) (by omega) (fun o_3 v_4 f5 f6 f7 => ?_)
    show zW ro 5 78 [some (.ref 6), some (.ref (42 + i)), some (.int (Int32.ofInt d))] [.int (Int32.ofInt v_4)] (zN L X (zhi s) R G nc ns) Q
    refine zW.run 1 (pc' := 80) (ls' := [some (.ref 6), some (.ref (42 + i)), some (.int (Int32.ofInt d))]) (st' := [.int (Int32.ofInt 100), .int (Int32.ofInt v_4)]) (σ' := (zN L X (zhi s) R G nc ns)) (fun n => rfl) ?_
    refine zW.jdiv rfl (by omega) ?_
    exact zW.jret rfl rfl (hQ0 (v_4 / 100))
  match j9, d2, f9 with
  | 0, d2, f9 =>
    cases f9
    refine zW.run 1 (pc' := 41) (ls' := [some (.ref 6), some (.ref (42 + i)), some (.int (Int32.ofInt d))]) (st' := [.ref (42 + i)]) (σ' := (zN L X (zhi s) R G nc ns)) (fun n => rfl) ?_
    have f8 := zV_com V (i := i) (by omega)
    refine zW.jget (v := (s (42 + i) 0)) rfl (zk_com (by omega)) (fun _ _ _ => rfl) rfl ?_
    exact zW.jret rfl rfl (hQ0 (s (42 + i) 0))
  | 1, d2, f9 =>
    cases f9
    refine zW.run 1 (pc' := 46) (ls' := [some (.ref 6), some (.ref (42 + i)), some (.int (Int32.ofInt d))]) (st' := [.ref (42 + i)]) (σ' := (zN L X (zhi s) R G nc ns)) (fun n => rfl) ?_
    have f9 := zV_com V (i := i) (by omega)
    refine zW.jget (v := (s (42 + i) 1)) rfl (zk_com (by omega)) (fun _ _ _ => rfl) rfl ?_
    exact zW.jret rfl rfl (hQ0 (s (42 + i) 1))
  | 2, d2, f9 =>
    cases f9
    refine zW.run 1 (pc' := 51) (ls' := [some (.ref 6), some (.ref (42 + i)), some (.int (Int32.ofInt d))]) (st' := [.ref (42 + i)]) (σ' := (zN L X (zhi s) R G nc ns)) (fun n => rfl) ?_
    have f10 := zV_com V (i := i) (by omega)
    refine zW.jget (v := (s (42 + i) 2)) rfl (zk_com (by omega)) (fun _ _ _ => rfl) rfl ?_
    exact zW.jret rfl rfl (hQ0 (s (42 + i) 2))
  | 3, d2, f9 =>
    cases f9
    refine zW.run 1 (pc' := 56) (ls' := [some (.ref 6), some (.ref (42 + i)), some (.int (Int32.ofInt d))]) (st' := [.ref (42 + i)]) (σ' := (zN L X (zhi s) R G nc ns)) (fun n => rfl) ?_
    have f11 := zV_com V (i := i) (by omega)
    refine zW.jget (v := (s (42 + i) 3)) rfl (zk_com (by omega)) (fun _ _ _ => rfl) rfl ?_
    exact zW.jret rfl rfl (hQ0 (s (42 + i) 3))
  | 4, d2, f9 =>
    cases f9
    refine zW.run 1 (pc' := 61) (ls' := [some (.ref 6), some (.ref (42 + i)), some (.int (Int32.ofInt d))]) (st' := [.ref (42 + i)]) (σ' := (zN L X (zhi s) R G nc ns)) (fun n => rfl) ?_
    have f12 := zV_com V (i := i) (by omega)
    refine zW.jget (v := (s (42 + i) 4)) rfl (zk_com (by omega)) (fun _ _ _ => rfl) rfl ?_
    exact zW.jret rfl rfl (hQ0 (s (42 + i) 4))
  | 5, d2, f9 =>
    cases f9
    refine zW.run 1 (pc' := 66) (ls' := [some (.ref 6), some (.ref (42 + i)), some (.int (Int32.ofInt d))]) (st' := [.ref (42 + i)]) (σ' := (zN L X (zhi s) R G nc ns)) (fun n => rfl) ?_
    have f13 := zV_com V (i := i) (by omega)
    refine zW.jget (v := (s (42 + i) 5)) rfl (zk_com (by omega)) (fun _ _ _ => rfl) rfl ?_
    exact zW.jret rfl rfl (hQ0 (s (42 + i) 5))
  | n9 + 6, e9, f9 => cases f9
set_option maxHeartbeats 4000000 in
theorem t_S_mineFact_6 (S : zSR R) (V : zV g U F T B ph s) {i : Nat} (p0 : i < 6) (hQ0 : Q (.inl (some (.int (Int32.ofInt (s (54 + 2 * i) 6))))) (zN L X (zhi s) R G nc ns)) : zW ro 15 0 (zfst [.ref 6, .ref (54 + 2 * i), .int (Int32.ofInt 6)] 3) [] (zN L X (zhi s) R G nc ns) Q := by
  show zW ro 15 0 [some (.ref 6), some (.ref (54 + 2 * i)), some (.int (Int32.ofInt 6))] [] (zN L X (zhi s) R G nc ns) Q
  have f1 := zA_geo (zV_zA V)
  have hB0 := zV_B V
  refine zW.run 1 (pc' := 1) (ls' := [some (.ref 6), some (.ref (54 + 2 * i)), some (.int (Int32.ofInt 6))]) (st' := [.int (Int32.ofInt 6)]) (σ' := (zN L X (zhi s) R G nc ns)) (fun n => rfl) ?_
  refine zW.go (pc' := 78) (ls' := [some (.ref 6), some (.ref (54 + 2 * i)), some (.int (Int32.ofInt 6))]) (st' := []) (σ' := (zN L X (zhi s) R G nc ns)) rfl (fun rec => rfl) ?_
  refine zW.run 1 (pc' := 79) (ls' := [some (.ref 6), some (.ref (54 + 2 * i)), some (.int (Int32.ofInt 6))]) (st' := [.ref (54 + 2 * i)]) (σ' := (zN L X (zhi s) R G nc ns)) (fun n => rfl) ?_
  have f2 := zV_min V (i := i) (by omega)
  refine zW.jget (v := (s (54 + 2 * i) 6)) rfl (zk_min (by omega)) (fun _ _ _ => rfl) rfl ?_
  exact zW.jret rfl rfl hQ0
set_option maxHeartbeats 4000000 in
theorem t_S_mineFact_7 (S : zSR R) (V : zV g U F T B ph s) {i : Nat} (p0 : i < 6) (hQ0 : Q (.inl (some (.int (Int32.ofInt (s (54 + 2 * i) 2))))) (zN L X (zhi s) R G nc ns)) : zW ro 15 0 (zfst [.ref 6, .ref (54 + 2 * i), .int (Int32.ofInt 7)] 3) [] (zN L X (zhi s) R G nc ns) Q := by
  show zW ro 15 0 [some (.ref 6), some (.ref (54 + 2 * i)), some (.int (Int32.ofInt 7))] [] (zN L X (zhi s) R G nc ns) Q
  have f1 := zA_geo (zV_zA V)
  have hB0 := zV_B V
  refine zW.run 1 (pc' := 1) (ls' := [some (.ref 6), some (.ref (54 + 2 * i)), some (.int (Int32.ofInt 7))]) (st' := [.int (Int32.ofInt 7)]) (σ' := (zN L X (zhi s) R G nc ns)) (fun n => rfl) ?_
  refine zW.go (pc' := 83) (ls' := [some (.ref 6), some (.ref (54 + 2 * i)), some (.int (Int32.ofInt 7))]) (st' := []) (σ' := (zN L X (zhi s) R G nc ns)) rfl (fun rec => rfl) ?_
  refine zW.run 1 (pc' := 84) (ls' := [some (.ref 6), some (.ref (54 + 2 * i)), some (.int (Int32.ofInt 7))]) (st' := [.ref (54 + 2 * i)]) (σ' := (zN L X (zhi s) R G nc ns)) (fun n => rfl) ?_
  have f2 := zV_min V (i := i) (by omega)
  refine zW.jget (v := (s (54 + 2 * i) 2)) rfl (zk_min (by omega)) (fun _ _ _ => rfl) rfl ?_
  exact zW.jret rfl rfl hQ0
set_option maxHeartbeats 4000000 in
theorem t_S_mineFact_8 (S : zSR R) (V : zV g U F T B ph s) {i : Nat} (p0 : i < 6) (hQ0 : s (54 + 2 * i) 6 = 0 → 2 ≤ s (54 + 2 * i) 2 → Q (.inl (some (.int (Int32.ofInt 1)))) (zN L X (zhi s) R G nc ns)) (hQ1 : Q (.inl (some (.int (Int32.ofInt 0)))) (zN L X (zhi s) R G nc ns)) : zW ro 15 0 (zfst [.ref 6, .ref (54 + 2 * i), .int (Int32.ofInt 8)] 3) [] (zN L X (zhi s) R G nc ns) Q := by
  show zW ro 15 0 [some (.ref 6), some (.ref (54 + 2 * i)), some (.int (Int32.ofInt 8))] [] (zN L X (zhi s) R G nc ns) Q
  have f1 := zA_geo (zV_zA V)
  have hB0 := zV_B V
  refine zW.run 1 (pc' := 1) (ls' := [some (.ref 6), some (.ref (54 + 2 * i)), some (.int (Int32.ofInt 8))]) (st' := [.int (Int32.ofInt 8)]) (σ' := (zN L X (zhi s) R G nc ns)) (fun n => rfl) ?_
  refine zW.go (pc' := 88) (ls' := [some (.ref 6), some (.ref (54 + 2 * i)), some (.int (Int32.ofInt 8))]) (st' := []) (σ' := (zN L X (zhi s) R G nc ns)) rfl (fun rec => rfl) ?_
  refine zW.run 1 (pc' := 89) (ls' := [some (.ref 6), some (.ref (54 + 2 * i)), some (.int (Int32.ofInt 8))]) (st' := [.ref 6]) (σ' := (zN L X (zhi s) R G nc ns)) (fun n => rfl) ?_
  refine zW.getf (v := .ref 7) rfl rfl (zr_6_0 S) ?_
  refine zW.run 1 (pc' := 93) (ls' := [some (.ref 6), some (.ref (54 + 2 * i)), some (.int (Int32.ofInt 8))]) (st' := [.ref (54 + 2 * i), .ref 7]) (σ' := (zN L X (zhi s) R G nc ns)) (fun n => rfl) ?_
  refine zW.callS rfl rfl rfl rfl rfl (Nat.le_of_ble_eq_true rfl) ?_
  refine t_Mining_isHeard S V (i := i) (by omega) (fun f2 f3 => ?_) ?_
  · skip
    show zW ro 15 96 [some (.ref 6), some (.ref (54 + 2 * i)), some (.int (Int32.ofInt 8))] [.int (Int32.ofInt 1)] (zN L X (zhi s) R G nc ns) Q
    refine zW.run 3 (pc' := 104) (ls' := [some (.ref 6), some (.ref (54 + 2 * i)), some (.int (Int32.ofInt 8))]) (st' := [.int (Int32.ofInt 1)]) (σ' := (zN L X (zhi s) R G nc ns)) (fun n => rfl) ?_
    exact zW.jret rfl rfl (hQ0 (by omega) (by omega))
  · skip
    show zW ro 15 96 [some (.ref 6), some (.ref (54 + 2 * i)), some (.int (Int32.ofInt 8))] [.int (Int32.ofInt 0)] (zN L X (zhi s) R G nc ns) Q
    refine zW.run 2 (pc' := 104) (ls' := [some (.ref 6), some (.ref (54 + 2 * i)), some (.int (Int32.ofInt 8))]) (st' := [.int (Int32.ofInt 0)]) (σ' := (zN L X (zhi s) R G nc ns)) (fun n => rfl) ?_
    exact zW.jret rfl rfl hQ1
set_option maxHeartbeats 4000000 in
theorem t_S_mineFact (S : zSR R) (V : zV g U F T B ph s) {i : Nat} {d : Int} (p0 : i < 6) (p1 : -2147483648 ≤ d ∧ d < 2147483648) (hQ0 : ∀ (v : Int), Q (.inl (some (.int (Int32.ofInt v)))) (zN L X (zhi s) R G nc ns)) : zW ro 15 0 (zfst [.ref 6, .ref (54 + 2 * i), .int (Int32.ofInt d)] 3) [] (zN L X (zhi s) R G nc ns) Q := by
  show zW ro 15 0 [some (.ref 6), some (.ref (54 + 2 * i)), some (.int (Int32.ofInt d))] [] (zN L X (zhi s) R G nc ns) Q
  have f1 := zA_geo (zV_zA V)
  have hB0 := zV_B V
  refine zW.run 1 (pc' := 1) (ls' := [some (.ref 6), some (.ref (54 + 2 * i)), some (.int (Int32.ofInt d))]) (st' := [.int (Int32.ofInt d)]) (σ' := (zN L X (zhi s) R G nc ns)) (fun n => rfl) ?_
  refine zW.jtab rfl (by omega) (fun d2 => ?_) (fun j9 t9 d2 f9 => ?_) (by decide)
  · skip
    refine zW.run 1 (pc' := 89) (ls' := [some (.ref 6), some (.ref (54 + 2 * i)), some (.int (Int32.ofInt d))]) (st' := [.ref 6]) (σ' := (zN L X (zhi s) R G nc ns)) (fun n => rfl) ?_
    refine zW.getf (v := .ref 7) rfl rfl (zr_6_0 S) ?_
    refine zW.run 1 (pc' := 93) (ls' := [some (.ref 6), some (.ref (54 + 2 * i)), some (.int (Int32.ofInt d))]) (st' := [.ref (54 + 2 * i), .ref 7]) (σ' := (zN L X (zhi s) R G nc ns)) (fun n => rfl) ?_
    refine zW.callS rfl rfl rfl rfl rfl (Nat.le_of_ble_eq_true rfl) ?_
    refine t_Mining_isHeard S V (i := i) (by omega) (fun f3 f4 => ?_) ?_
    · skip
      show zW ro 15 96 [some (.ref 6), some (.ref (54 + 2 * i)), some (.int (Int32.ofInt d))] [.int (Int32.ofInt 1)] (zN L X (zhi s) R G nc ns) Q
      refine zW.run 3 (pc' := 104) (ls' := [some (.ref 6), some (.ref (54 + 2 * i)), some (.int (Int32.ofInt d))]) (st' := [.int (Int32.ofInt 1)]) (σ' := (zN L X (zhi s) R G nc ns)) (fun n => rfl) ?_
      exact zW.jret rfl rfl (hQ0 1)
    · skip
      show zW ro 15 96 [some (.ref 6), some (.ref (54 + 2 * i)), some (.int (Int32.ofInt d))] [.int (Int32.ofInt 0)] (zN L X (zhi s) R G nc ns) Q
      refine zW.run 2 (pc' := 104) (ls' := [some (.ref 6), some (.ref (54 + 2 * i)), some (.int (Int32.ofInt d))]) (st' := [.int (Int32.ofInt 0)]) (σ' := (zN L X (zhi s) R G nc ns)) (fun n => rfl) ?_
      exact zW.jret rfl rfl (hQ0 0)
  match j9, d2, f9 with
  | 0, d2, f9 =>
    cases f9
    refine zW.run 1 (pc' := 49) (ls' := [some (.ref 6), some (.ref (54 + 2 * i)), some (.int (Int32.ofInt d))]) (st' := [.ref (54 + 2 * i)]) (σ' := (zN L X (zhi s) R G nc ns)) (fun n => rfl) ?_
    have f5 := zV_min V (i := i) (by omega)
    refine zW.jget (v := (s (54 + 2 * i) 1)) rfl (zk_min (by omega)) (fun _ _ _ => rfl) rfl ?_
    exact zW.jret rfl rfl (hQ0 (s (54 + 2 * i) 1))
  | 1, d2, f9 =>
    cases f9
    refine zW.run 1 (pc' := 54) (ls' := [some (.ref 6), some (.ref (54 + 2 * i)), some (.int (Int32.ofInt d))]) (st' := [.ref (54 + 2 * i)]) (σ' := (zN L X (zhi s) R G nc ns)) (fun n => rfl) ?_
    refine zW.callV rfl (by decide) rfl rfl rfl rfl (zk_min (by omega)) (Nat.le_of_ble_eq_true rfl) ?_
    refine t_Mine_mouth S V (i := i) (by omega) (fun v_6 f7 => ?_)
    show zW ro 15 57 [some (.ref 6), some (.ref (54 + 2 * i)), some (.int (Int32.ofInt d))] [.int (Int32.ofInt v_6)] (zN L X (zhi s) R G nc ns) Q
    exact zW.jret rfl rfl (hQ0 v_6)
  | 2, d2, f9 =>
    cases f9
    refine zW.run 1 (pc' := 59) (ls' := [some (.ref 6), some (.ref (54 + 2 * i)), some (.int (Int32.ofInt d))]) (st' := [.ref (54 + 2 * i)]) (σ' := (zN L X (zhi s) R G nc ns)) (fun n => rfl) ?_
    refine zW.callV rfl (by decide) rfl rfl rfl rfl (zk_min (by omega)) (Nat.le_of_ble_eq_true rfl) ?_
    refine t_Mine_head S V (i := i) (by omega) (fun v_8 f9 => ?_)
    show zW ro 15 62 [some (.ref 6), some (.ref (54 + 2 * i)), some (.int (Int32.ofInt d))] [.int (Int32.ofInt v_8)] (zN L X (zhi s) R G nc ns) Q
    exact zW.jret rfl rfl (hQ0 v_8)
  | 3, d2, f9 =>
    cases f9
    refine zW.run 1 (pc' := 64) (ls' := [some (.ref 6), some (.ref (54 + 2 * i)), some (.int (Int32.ofInt d))]) (st' := [.ref (54 + 2 * i)]) (σ' := (zN L X (zhi s) R G nc ns)) (fun n => rfl) ?_
    have f10 := zV_min V (i := i) (by omega)
    refine zW.jget (v := (s (54 + 2 * i) 3)) rfl (zk_min (by omega)) (fun _ _ _ => rfl) rfl ?_
    exact zW.jret rfl rfl (hQ0 (s (54 + 2 * i) 3))
  | 4, d2, f9 =>
    cases f9
    refine zW.run 1 (pc' := 69) (ls' := [some (.ref 6), some (.ref (54 + 2 * i)), some (.int (Int32.ofInt d))]) (st' := [.ref (54 + 2 * i)]) (σ' := (zN L X (zhi s) R G nc ns)) (fun n => rfl) ?_
    have f11 := zV_min V (i := i) (by omega)
    refine zW.jget (v := (s (54 + 2 * i) 4)) rfl (zk_min (by omega)) (fun _ _ _ => rfl) rfl ?_
    exact zW.jret rfl rfl (hQ0 (s (54 + 2 * i) 4))
  | 5, d2, f9 =>
    cases f9
    refine zW.run 1 (pc' := 74) (ls' := [some (.ref 6), some (.ref (54 + 2 * i)), some (.int (Int32.ofInt d))]) (st' := [.ref (54 + 2 * i)]) (σ' := (zN L X (zhi s) R G nc ns)) (fun n => rfl) ?_
    have f12 := zV_min V (i := i) (by omega)
    refine zW.jget (v := (s (54 + 2 * i) 5)) rfl (zk_min (by omega)) (fun _ _ _ => rfl) rfl ?_
    exact zW.jret rfl rfl (hQ0 (s (54 + 2 * i) 5))
  | 6, d2, f9 =>
    cases f9
    refine zW.run 1 (pc' := 79) (ls' := [some (.ref 6), some (.ref (54 + 2 * i)), some (.int (Int32.ofInt d))]) (st' := [.ref (54 + 2 * i)]) (σ' := (zN L X (zhi s) R G nc ns)) (fun n => rfl) ?_
    have f13 := zV_min V (i := i) (by omega)
    refine zW.jget (v := (s (54 + 2 * i) 6)) rfl (zk_min (by omega)) (fun _ _ _ => rfl) rfl ?_
    exact zW.jret rfl rfl (hQ0 (s (54 + 2 * i) 6))
  | 7, d2, f9 =>
    cases f9
    refine zW.run 1 (pc' := 84) (ls' := [some (.ref 6), some (.ref (54 + 2 * i)), some (.int (Int32.ofInt d))]) (st' := [.ref (54 + 2 * i)]) (σ' := (zN L X (zhi s) R G nc ns)) (fun n => rfl) ?_
    have f14 := zV_min V (i := i) (by omega)
    refine zW.jget (v := (s (54 + 2 * i) 2)) rfl (zk_min (by omega)) (fun _ _ _ => rfl) rfl ?_
    exact zW.jret rfl rfl (hQ0 (s (54 + 2 * i) 2))
  | n9 + 8, e9, f9 => cases f9
set_option maxHeartbeats 4000000 in
theorem t_S_sideFact_0_1 (S : zSR R) (V : zV g U F T B ph s)   (hQ0 : Q (.inl (some (.int (Int32.ofInt (s 21 1))))) (zN L X (zhi s) R G nc ns)) : zW ro 28 0 (zfst [.ref 6, .int (Int32.ofInt 0), .int (Int32.ofInt 1)] 4) [] (zN L X (zhi s) R G nc ns) Q := by
  show zW ro 28 0 [some (.ref 6), some (.int (Int32.ofInt 0)), some (.int (Int32.ofInt 1)), none] [] (zN L X (zhi s) R G nc ns) Q
  have f1 := zA_geo (zV_zA V)
  have hB0 := zV_B V
  refine zW.run 1 (pc' := 1) (ls' := [some (.ref 6), some (.int (Int32.ofInt 0)), some (.int (Int32.ofInt 1)), none]) (st' := [.ref 6]) (σ' := (zN L X (zhi s) R G nc ns)) (fun n => rfl) ?_
  refine zW.getf (v := .ref 7) rfl rfl (zr_6_0 S) ?_
  refine zW.run 1 (pc' := 5) (ls' := [some (.ref 6), some (.int (Int32.ofInt 0)), some (.int (Int32.ofInt 1)), none]) (st' := [.int (Int32.ofInt 0), .ref 7]) (σ' := (zN L X (zhi s) R G nc ns)) (fun n => rfl) ?_
  refine zW.callV rfl (by decide) rfl rfl rfl rfl rfl (Nat.le_of_ble_eq_true rfl) ?_
  refine t_Siege_of_0 S ?_
  show zW ro 28 8 [some (.ref 6), some (.int (Int32.ofInt 0)), some (.int (Int32.ofInt 1)), none] [.ref 21] (zN L X (zhi s) R G nc ns) Q
  refine zW.run 2 (pc' := 10) (ls' := [some (.ref 6), some (.int (Int32.ofInt 0)), some (.int (Int32.ofInt 1)), some (.ref 21)]) (st' := [.int (Int32.ofInt 1)]) (σ' := (zN L X (zhi s) R G nc ns)) (fun n => rfl) ?_
  refine zW.go (pc' := 77) (ls' := [some (.ref 6), some (.int (Int32.ofInt 0)), some (.int (Int32.ofInt 1)), some (.ref 21)]) (st' := []) (σ' := (zN L X (zhi s) R G nc ns)) rfl (fun rec => rfl) ?_
  refine zW.run 1 (pc' := 78) (ls' := [some (.ref 6), some (.int (Int32.ofInt 0)), some (.int (Int32.ofInt 1)), some (.ref 21)]) (st' := [.ref 21]) (σ' := (zN L X (zhi s) R G nc ns)) (fun n => rfl) ?_
  have f2 := zV_sid V (o := 21) (by omega)
  refine zW.run 1 (pc' := 81) (ls' := [some (.ref 6), some (.int (Int32.ofInt 0)), some (.int (Int32.ofInt 1)), some (.ref 21)]) (st' := [.int (Int32.ofInt (s 21 1))]) (σ' := (zN L X (zhi s) R G nc ns)) (fun n => rfl) ?_
  exact zW.jret rfl rfl hQ0
set_option maxHeartbeats 4000000 in
theorem t_S_sideFact_0_2 (S : zSR R) (V : zV g U F T B ph s)   (hQ0 : Q (.inl (some (.int (Int32.ofInt (s 21 2))))) (zN L X (zhi s) R G nc ns)) : zW ro 28 0 (zfst [.ref 6, .int (Int32.ofInt 0), .int (Int32.ofInt 2)] 4) [] (zN L X (zhi s) R G nc ns) Q := by
  show zW ro 28 0 [some (.ref 6), some (.int (Int32.ofInt 0)), some (.int (Int32.ofInt 2)), none] [] (zN L X (zhi s) R G nc ns) Q
  have f1 := zA_geo (zV_zA V)
  have hB0 := zV_B V
  refine zW.run 1 (pc' := 1) (ls' := [some (.ref 6), some (.int (Int32.ofInt 0)), some (.int (Int32.ofInt 2)), none]) (st' := [.ref 6]) (σ' := (zN L X (zhi s) R G nc ns)) (fun n => rfl) ?_
  refine zW.getf (v := .ref 7) rfl rfl (zr_6_0 S) ?_
  refine zW.run 1 (pc' := 5) (ls' := [some (.ref 6), some (.int (Int32.ofInt 0)), some (.int (Int32.ofInt 2)), none]) (st' := [.int (Int32.ofInt 0), .ref 7]) (σ' := (zN L X (zhi s) R G nc ns)) (fun n => rfl) ?_
  refine zW.callV rfl (by decide) rfl rfl rfl rfl rfl (Nat.le_of_ble_eq_true rfl) ?_
  refine t_Siege_of_0 S ?_
  show zW ro 28 8 [some (.ref 6), some (.int (Int32.ofInt 0)), some (.int (Int32.ofInt 2)), none] [.ref 21] (zN L X (zhi s) R G nc ns) Q
  refine zW.run 2 (pc' := 10) (ls' := [some (.ref 6), some (.int (Int32.ofInt 0)), some (.int (Int32.ofInt 2)), some (.ref 21)]) (st' := [.int (Int32.ofInt 2)]) (σ' := (zN L X (zhi s) R G nc ns)) (fun n => rfl) ?_
  refine zW.go (pc' := 82) (ls' := [some (.ref 6), some (.int (Int32.ofInt 0)), some (.int (Int32.ofInt 2)), some (.ref 21)]) (st' := []) (σ' := (zN L X (zhi s) R G nc ns)) rfl (fun rec => rfl) ?_
  refine zW.run 1 (pc' := 83) (ls' := [some (.ref 6), some (.int (Int32.ofInt 0)), some (.int (Int32.ofInt 2)), some (.ref 21)]) (st' := [.ref 21]) (σ' := (zN L X (zhi s) R G nc ns)) (fun n => rfl) ?_
  have f2 := zV_sid V (o := 21) (by omega)
  refine zW.run 1 (pc' := 86) (ls' := [some (.ref 6), some (.int (Int32.ofInt 0)), some (.int (Int32.ofInt 2)), some (.ref 21)]) (st' := [.int (Int32.ofInt (s 21 2))]) (σ' := (zN L X (zhi s) R G nc ns)) (fun n => rfl) ?_
  exact zW.jret rfl rfl hQ0
set_option maxHeartbeats 4000000 in
theorem t_S_sideFact_0_3 (S : zSR R) (V : zV g U F T B ph s)   (hQ0 : Q (.inl (some (.int (Int32.ofInt (s 21 3))))) (zN L X (zhi s) R G nc ns)) : zW ro 28 0 (zfst [.ref 6, .int (Int32.ofInt 0), .int (Int32.ofInt 3)] 4) [] (zN L X (zhi s) R G nc ns) Q := by
  show zW ro 28 0 [some (.ref 6), some (.int (Int32.ofInt 0)), some (.int (Int32.ofInt 3)), none] [] (zN L X (zhi s) R G nc ns) Q
  have f1 := zA_geo (zV_zA V)
  have hB0 := zV_B V
  refine zW.run 1 (pc' := 1) (ls' := [some (.ref 6), some (.int (Int32.ofInt 0)), some (.int (Int32.ofInt 3)), none]) (st' := [.ref 6]) (σ' := (zN L X (zhi s) R G nc ns)) (fun n => rfl) ?_
  refine zW.getf (v := .ref 7) rfl rfl (zr_6_0 S) ?_
  refine zW.run 1 (pc' := 5) (ls' := [some (.ref 6), some (.int (Int32.ofInt 0)), some (.int (Int32.ofInt 3)), none]) (st' := [.int (Int32.ofInt 0), .ref 7]) (σ' := (zN L X (zhi s) R G nc ns)) (fun n => rfl) ?_
  refine zW.callV rfl (by decide) rfl rfl rfl rfl rfl (Nat.le_of_ble_eq_true rfl) ?_
  refine t_Siege_of_0 S ?_
  show zW ro 28 8 [some (.ref 6), some (.int (Int32.ofInt 0)), some (.int (Int32.ofInt 3)), none] [.ref 21] (zN L X (zhi s) R G nc ns) Q
  refine zW.run 2 (pc' := 10) (ls' := [some (.ref 6), some (.int (Int32.ofInt 0)), some (.int (Int32.ofInt 3)), some (.ref 21)]) (st' := [.int (Int32.ofInt 3)]) (σ' := (zN L X (zhi s) R G nc ns)) (fun n => rfl) ?_
  refine zW.go (pc' := 87) (ls' := [some (.ref 6), some (.int (Int32.ofInt 0)), some (.int (Int32.ofInt 3)), some (.ref 21)]) (st' := []) (σ' := (zN L X (zhi s) R G nc ns)) rfl (fun rec => rfl) ?_
  refine zW.run 1 (pc' := 88) (ls' := [some (.ref 6), some (.int (Int32.ofInt 0)), some (.int (Int32.ofInt 3)), some (.ref 21)]) (st' := [.ref 21]) (σ' := (zN L X (zhi s) R G nc ns)) (fun n => rfl) ?_
  have f2 := zV_sid V (o := 21) (by omega)
  refine zW.run 1 (pc' := 91) (ls' := [some (.ref 6), some (.int (Int32.ofInt 0)), some (.int (Int32.ofInt 3)), some (.ref 21)]) (st' := [.int (Int32.ofInt (s 21 3))]) (σ' := (zN L X (zhi s) R G nc ns)) (fun n => rfl) ?_
  exact zW.jret rfl rfl hQ0
set_option maxHeartbeats 4000000 in
theorem t_S_sideFact_0_5 (S : zSR R) (V : zV g U F T B ph s)   (hQ0 : ∀ (v : Int), 0 ≤ v ∧ v ≤ 2400 → v = zmm s 0 12 → Q (.inl (some (.int (Int32.ofInt v)))) (zN L X (zhi s) R G nc ns)) : zW ro 28 0 (zfst [.ref 6, .int (Int32.ofInt 0), .int (Int32.ofInt 5)] 4) [] (zN L X (zhi s) R G nc ns) Q := by
  show zW ro 28 0 [some (.ref 6), some (.int (Int32.ofInt 0)), some (.int (Int32.ofInt 5)), none] [] (zN L X (zhi s) R G nc ns) Q
  have f1 := zA_geo (zV_zA V)
  have hB0 := zV_B V
  refine zW.run 1 (pc' := 1) (ls' := [some (.ref 6), some (.int (Int32.ofInt 0)), some (.int (Int32.ofInt 5)), none]) (st' := [.ref 6]) (σ' := (zN L X (zhi s) R G nc ns)) (fun n => rfl) ?_
  refine zW.getf (v := .ref 7) rfl rfl (zr_6_0 S) ?_
  refine zW.run 1 (pc' := 5) (ls' := [some (.ref 6), some (.int (Int32.ofInt 0)), some (.int (Int32.ofInt 5)), none]) (st' := [.int (Int32.ofInt 0), .ref 7]) (σ' := (zN L X (zhi s) R G nc ns)) (fun n => rfl) ?_
  refine zW.callV rfl (by decide) rfl rfl rfl rfl rfl (Nat.le_of_ble_eq_true rfl) ?_
  refine t_Siege_of_0 S ?_
  show zW ro 28 8 [some (.ref 6), some (.int (Int32.ofInt 0)), some (.int (Int32.ofInt 5)), none] [.ref 21] (zN L X (zhi s) R G nc ns) Q
  refine zW.run 2 (pc' := 10) (ls' := [some (.ref 6), some (.int (Int32.ofInt 0)), some (.int (Int32.ofInt 5)), some (.ref 21)]) (st' := [.int (Int32.ofInt 5)]) (σ' := (zN L X (zhi s) R G nc ns)) (fun n => rfl) ?_
  refine zW.go (pc' := 97) (ls' := [some (.ref 6), some (.int (Int32.ofInt 0)), some (.int (Int32.ofInt 5)), some (.ref 21)]) (st' := []) (σ' := (zN L X (zhi s) R G nc ns)) rfl (fun rec => rfl) ?_
  refine zW.run 1 (pc' := 98) (ls' := [some (.ref 6), some (.int (Int32.ofInt 0)), some (.int (Int32.ofInt 5)), some (.ref 21)]) (st' := [.ref 6]) (σ' := (zN L X (zhi s) R G nc ns)) (fun n => rfl) ?_
  refine zW.getf (v := .ref 7) rfl rfl (zr_6_0 S) ?_
  refine zW.run 1 (pc' := 102) (ls' := [some (.ref 6), some (.int (Int32.ofInt 0)), some (.int (Int32.ofInt 5)), some (.ref 21)]) (st' := [.int (Int32.ofInt 0), .ref 7]) (σ' := (zN L X (zhi s) R G nc ns)) (fun n => rfl) ?_
  refine zW.callV rfl (by decide) rfl rfl rfl rfl rfl (Nat.le_of_ble_eq_true rfl) ?_
  refine t_Siege_menOf S V (x := 0) (by omega) (fun v_2 f3 f4 => ?_)
  show zW ro 28 105 [some (.ref 6), some (.int (Int32.ofInt 0)), some (.int (Int32.ofInt 5)), some (.ref 21)] [.int (Int32.ofInt v_2)] (zN L X (zhi s) R G nc ns) Q
  exact zW.jret rfl rfl (hQ0 v_2 (by omega) (by omega))
set_option maxHeartbeats 4000000 in
theorem t_S_sideFact_0_6 (S : zSR R) (V : zV g U F T B ph s)   (hQ0 : ∀ (v : Int), 0 ≤ v ∧ v ≤ 12 → v = zco s 0 12 → Q (.inl (some (.int (Int32.ofInt v)))) (zN L X (zhi s) R G nc ns)) : zW ro 28 0 (zfst [.ref 6, .int (Int32.ofInt 0), .int (Int32.ofInt 6)] 4) [] (zN L X (zhi s) R G nc ns) Q := by
  show zW ro 28 0 [some (.ref 6), some (.int (Int32.ofInt 0)), some (.int (Int32.ofInt 6)), none] [] (zN L X (zhi s) R G nc ns) Q
  have f1 := zA_geo (zV_zA V)
  have hB0 := zV_B V
  refine zW.run 1 (pc' := 1) (ls' := [some (.ref 6), some (.int (Int32.ofInt 0)), some (.int (Int32.ofInt 6)), none]) (st' := [.ref 6]) (σ' := (zN L X (zhi s) R G nc ns)) (fun n => rfl) ?_
  refine zW.getf (v := .ref 7) rfl rfl (zr_6_0 S) ?_
  refine zW.run 1 (pc' := 5) (ls' := [some (.ref 6), some (.int (Int32.ofInt 0)), some (.int (Int32.ofInt 6)), none]) (st' := [.int (Int32.ofInt 0), .ref 7]) (σ' := (zN L X (zhi s) R G nc ns)) (fun n => rfl) ?_
  refine zW.callV rfl (by decide) rfl rfl rfl rfl rfl (Nat.le_of_ble_eq_true rfl) ?_
  refine t_Siege_of_0 S ?_
  show zW ro 28 8 [some (.ref 6), some (.int (Int32.ofInt 0)), some (.int (Int32.ofInt 6)), none] [.ref 21] (zN L X (zhi s) R G nc ns) Q
  refine zW.run 2 (pc' := 10) (ls' := [some (.ref 6), some (.int (Int32.ofInt 0)), some (.int (Int32.ofInt 6)), some (.ref 21)]) (st' := [.int (Int32.ofInt 6)]) (σ' := (zN L X (zhi s) R G nc ns)) (fun n => rfl) ?_
  refine zW.go (pc' := 106) (ls' := [some (.ref 6), some (.int (Int32.ofInt 0)), some (.int (Int32.ofInt 6)), some (.ref 21)]) (st' := []) (σ' := (zN L X (zhi s) R G nc ns)) rfl (fun rec => rfl) ?_
  refine zW.run 1 (pc' := 107) (ls' := [some (.ref 6), some (.int (Int32.ofInt 0)), some (.int (Int32.ofInt 6)), some (.ref 21)]) (st' := [.ref 6]) (σ' := (zN L X (zhi s) R G nc ns)) (fun n => rfl) ?_
  refine zW.getf (v := .ref 7) rfl rfl (zr_6_0 S) ?_
  refine zW.run 1 (pc' := 111) (ls' := [some (.ref 6), some (.int (Int32.ofInt 0)), some (.int (Int32.ofInt 6)), some (.ref 21)]) (st' := [.int (Int32.ofInt 0), .ref 7]) (σ' := (zN L X (zhi s) R G nc ns)) (fun n => rfl) ?_
  refine zW.callV rfl (by decide) rfl rfl rfl rfl rfl (Nat.le_of_ble_eq_true rfl) ?_
  refine t_Siege_companiesOf S V (x := 0) (by omega) (fun v_2 f3 f4 => ?_)
  show zW ro 28 114 [some (.ref 6), some (.int (Int32.ofInt 0)), some (.int (Int32.ofInt 6)), some (.ref 21)] [.int (Int32.ofInt v_2)] (zN L X (zhi s) R G nc ns) Q
  exact zW.jret rfl rfl (hQ0 v_2 (by omega) (by omega))
set_option maxHeartbeats 4000000 in
theorem t_S_sideFact_0_9 (S : zSR R) (V : zV g U F T B ph s)   (hQ0 : Q (.inl (some (.int (Int32.ofInt (s 21 7))))) (zN L X (zhi s) R G nc ns)) : zW ro 28 0 (zfst [.ref 6, .int (Int32.ofInt 0), .int (Int32.ofInt 9)] 4) [] (zN L X (zhi s) R G nc ns) Q := by
  show zW ro 28 0 [some (.ref 6), some (.int (Int32.ofInt 0)), some (.int (Int32.ofInt 9)), none] [] (zN L X (zhi s) R G nc ns) Q
  have f1 := zA_geo (zV_zA V)
  have hB0 := zV_B V
  refine zW.run 1 (pc' := 1) (ls' := [some (.ref 6), some (.int (Int32.ofInt 0)), some (.int (Int32.ofInt 9)), none]) (st' := [.ref 6]) (σ' := (zN L X (zhi s) R G nc ns)) (fun n => rfl) ?_
  refine zW.getf (v := .ref 7) rfl rfl (zr_6_0 S) ?_
  refine zW.run 1 (pc' := 5) (ls' := [some (.ref 6), some (.int (Int32.ofInt 0)), some (.int (Int32.ofInt 9)), none]) (st' := [.int (Int32.ofInt 0), .ref 7]) (σ' := (zN L X (zhi s) R G nc ns)) (fun n => rfl) ?_
  refine zW.callV rfl (by decide) rfl rfl rfl rfl rfl (Nat.le_of_ble_eq_true rfl) ?_
  refine t_Siege_of_0 S ?_
  show zW ro 28 8 [some (.ref 6), some (.int (Int32.ofInt 0)), some (.int (Int32.ofInt 9)), none] [.ref 21] (zN L X (zhi s) R G nc ns) Q
  refine zW.run 2 (pc' := 10) (ls' := [some (.ref 6), some (.int (Int32.ofInt 0)), some (.int (Int32.ofInt 9)), some (.ref 21)]) (st' := [.int (Int32.ofInt 9)]) (σ' := (zN L X (zhi s) R G nc ns)) (fun n => rfl) ?_
  refine zW.go (pc' := 125) (ls' := [some (.ref 6), some (.int (Int32.ofInt 0)), some (.int (Int32.ofInt 9)), some (.ref 21)]) (st' := []) (σ' := (zN L X (zhi s) R G nc ns)) rfl (fun rec => rfl) ?_
  refine zW.run 1 (pc' := 126) (ls' := [some (.ref 6), some (.int (Int32.ofInt 0)), some (.int (Int32.ofInt 9)), some (.ref 21)]) (st' := [.ref 21]) (σ' := (zN L X (zhi s) R G nc ns)) (fun n => rfl) ?_
  refine zW.run 1 (pc' := 129) (ls' := [some (.ref 6), some (.int (Int32.ofInt 0)), some (.int (Int32.ofInt 9)), some (.ref 21)]) (st' := [.int (Int32.ofInt (s 21 7))]) (σ' := (zN L X (zhi s) R G nc ns)) (fun n => rfl) ?_
  exact zW.jret rfl rfl hQ0
set_option maxHeartbeats 4000000 in
theorem t_S_sideFact_0_11 (S : zSR R) (V : zV g U F T B ph s)   (hQ0 : Q (.inl (some (.int (Int32.ofInt (s 21 9))))) (zN L X (zhi s) R G nc ns)) : zW ro 28 0 (zfst [.ref 6, .int (Int32.ofInt 0), .int (Int32.ofInt 11)] 4) [] (zN L X (zhi s) R G nc ns) Q := by
  show zW ro 28 0 [some (.ref 6), some (.int (Int32.ofInt 0)), some (.int (Int32.ofInt 11)), none] [] (zN L X (zhi s) R G nc ns) Q
  have f1 := zA_geo (zV_zA V)
  have hB0 := zV_B V
  refine zW.run 1 (pc' := 1) (ls' := [some (.ref 6), some (.int (Int32.ofInt 0)), some (.int (Int32.ofInt 11)), none]) (st' := [.ref 6]) (σ' := (zN L X (zhi s) R G nc ns)) (fun n => rfl) ?_
  refine zW.getf (v := .ref 7) rfl rfl (zr_6_0 S) ?_
  refine zW.run 1 (pc' := 5) (ls' := [some (.ref 6), some (.int (Int32.ofInt 0)), some (.int (Int32.ofInt 11)), none]) (st' := [.int (Int32.ofInt 0), .ref 7]) (σ' := (zN L X (zhi s) R G nc ns)) (fun n => rfl) ?_
  refine zW.callV rfl (by decide) rfl rfl rfl rfl rfl (Nat.le_of_ble_eq_true rfl) ?_
  refine t_Siege_of_0 S ?_
  show zW ro 28 8 [some (.ref 6), some (.int (Int32.ofInt 0)), some (.int (Int32.ofInt 11)), none] [.ref 21] (zN L X (zhi s) R G nc ns) Q
  refine zW.run 2 (pc' := 10) (ls' := [some (.ref 6), some (.int (Int32.ofInt 0)), some (.int (Int32.ofInt 11)), some (.ref 21)]) (st' := [.int (Int32.ofInt 11)]) (σ' := (zN L X (zhi s) R G nc ns)) (fun n => rfl) ?_
  refine zW.go (pc' := 135) (ls' := [some (.ref 6), some (.int (Int32.ofInt 0)), some (.int (Int32.ofInt 11)), some (.ref 21)]) (st' := []) (σ' := (zN L X (zhi s) R G nc ns)) rfl (fun rec => rfl) ?_
  refine zW.run 1 (pc' := 136) (ls' := [some (.ref 6), some (.int (Int32.ofInt 0)), some (.int (Int32.ofInt 11)), some (.ref 21)]) (st' := [.ref 21]) (σ' := (zN L X (zhi s) R G nc ns)) (fun n => rfl) ?_
  refine zW.run 1 (pc' := 139) (ls' := [some (.ref 6), some (.int (Int32.ofInt 0)), some (.int (Int32.ofInt 11)), some (.ref 21)]) (st' := [.int (Int32.ofInt (s 21 9))]) (σ' := (zN L X (zhi s) R G nc ns)) (fun n => rfl) ?_
  exact zW.jret rfl rfl hQ0
set_option maxHeartbeats 4000000 in
theorem t_S_sideFact_0_12 (S : zSR R) (V : zV g U F T B ph s)   (hQ0 : ∀ (v : Int), 0 ≤ v ∧ v ≤ 16 → v = zrg s 0 16 → Q (.inl (some (.int (Int32.ofInt v)))) (zN L X (zhi s) R G nc ns)) : zW ro 28 0 (zfst [.ref 6, .int (Int32.ofInt 0), .int (Int32.ofInt 12)] 4) [] (zN L X (zhi s) R G nc ns) Q := by
  show zW ro 28 0 [some (.ref 6), some (.int (Int32.ofInt 0)), some (.int (Int32.ofInt 12)), none] [] (zN L X (zhi s) R G nc ns) Q
  have f1 := zA_geo (zV_zA V)
  have hB0 := zV_B V
  refine zW.run 1 (pc' := 1) (ls' := [some (.ref 6), some (.int (Int32.ofInt 0)), some (.int (Int32.ofInt 12)), none]) (st' := [.ref 6]) (σ' := (zN L X (zhi s) R G nc ns)) (fun n => rfl) ?_
  refine zW.getf (v := .ref 7) rfl rfl (zr_6_0 S) ?_
  refine zW.run 1 (pc' := 5) (ls' := [some (.ref 6), some (.int (Int32.ofInt 0)), some (.int (Int32.ofInt 12)), none]) (st' := [.int (Int32.ofInt 0), .ref 7]) (σ' := (zN L X (zhi s) R G nc ns)) (fun n => rfl) ?_
  refine zW.callV rfl (by decide) rfl rfl rfl rfl rfl (Nat.le_of_ble_eq_true rfl) ?_
  refine t_Siege_of_0 S ?_
  show zW ro 28 8 [some (.ref 6), some (.int (Int32.ofInt 0)), some (.int (Int32.ofInt 12)), none] [.ref 21] (zN L X (zhi s) R G nc ns) Q
  refine zW.run 2 (pc' := 10) (ls' := [some (.ref 6), some (.int (Int32.ofInt 0)), some (.int (Int32.ofInt 12)), some (.ref 21)]) (st' := [.int (Int32.ofInt 12)]) (σ' := (zN L X (zhi s) R G nc ns)) (fun n => rfl) ?_
  refine zW.go (pc' := 140) (ls' := [some (.ref 6), some (.int (Int32.ofInt 0)), some (.int (Int32.ofInt 12)), some (.ref 21)]) (st' := []) (σ' := (zN L X (zhi s) R G nc ns)) rfl (fun rec => rfl) ?_
  refine zW.run 1 (pc' := 141) (ls' := [some (.ref 6), some (.int (Int32.ofInt 0)), some (.int (Int32.ofInt 12)), some (.ref 21)]) (st' := [.ref 6]) (σ' := (zN L X (zhi s) R G nc ns)) (fun n => rfl) ?_
  refine zW.getf (v := .ref 7) rfl rfl (zr_6_0 S) ?_
  refine zW.run 1 (pc' := 145) (ls' := [some (.ref 6), some (.int (Int32.ofInt 0)), some (.int (Int32.ofInt 12)), some (.ref 21)]) (st' := [.int (Int32.ofInt 0), .ref 7]) (σ' := (zN L X (zhi s) R G nc ns)) (fun n => rfl) ?_
  refine zW.callV rfl (by decide) rfl rfl rfl rfl rfl (Nat.le_of_ble_eq_true rfl) ?_
  refine t_Siege_readyGunsOf S V (x := 0) (by omega) (fun v_2 f3 f4 => ?_)
  show zW ro 28 148 [some (.ref 6), some (.int (Int32.ofInt 0)), some (.int (Int32.ofInt 12)), some (.ref 21)] [.int (Int32.ofInt v_2)] (zN L X (zhi s) R G nc ns) Q
  exact zW.jret rfl rfl (hQ0 v_2 (by omega) (by omega))
set_option maxHeartbeats 4000000 in
theorem t_S_sideFact_1_1 (S : zSR R) (V : zV g U F T B ph s)   (hQ0 : Q (.inl (some (.int (Int32.ofInt (s 22 1))))) (zN L X (zhi s) R G nc ns)) : zW ro 28 0 (zfst [.ref 6, .int (Int32.ofInt 1), .int (Int32.ofInt 1)] 4) [] (zN L X (zhi s) R G nc ns) Q := by
  show zW ro 28 0 [some (.ref 6), some (.int (Int32.ofInt 1)), some (.int (Int32.ofInt 1)), none] [] (zN L X (zhi s) R G nc ns) Q
  have f1 := zA_geo (zV_zA V)
  have hB0 := zV_B V
  refine zW.run 1 (pc' := 1) (ls' := [some (.ref 6), some (.int (Int32.ofInt 1)), some (.int (Int32.ofInt 1)), none]) (st' := [.ref 6]) (σ' := (zN L X (zhi s) R G nc ns)) (fun n => rfl) ?_
  refine zW.getf (v := .ref 7) rfl rfl (zr_6_0 S) ?_
  refine zW.run 1 (pc' := 5) (ls' := [some (.ref 6), some (.int (Int32.ofInt 1)), some (.int (Int32.ofInt 1)), none]) (st' := [.int (Int32.ofInt 1), .ref 7]) (σ' := (zN L X (zhi s) R G nc ns)) (fun n => rfl) ?_
  refine zW.callV rfl (by decide) rfl rfl rfl rfl rfl (Nat.le_of_ble_eq_true rfl) ?_
  refine t_Siege_of_1 S ?_
  show zW ro 28 8 [some (.ref 6), some (.int (Int32.ofInt 1)), some (.int (Int32.ofInt 1)), none] [.ref 22] (zN L X (zhi s) R G nc ns) Q
  refine zW.run 2 (pc' := 10) (ls' := [some (.ref 6), some (.int (Int32.ofInt 1)), some (.int (Int32.ofInt 1)), some (.ref 22)]) (st' := [.int (Int32.ofInt 1)]) (σ' := (zN L X (zhi s) R G nc ns)) (fun n => rfl) ?_
  refine zW.go (pc' := 77) (ls' := [some (.ref 6), some (.int (Int32.ofInt 1)), some (.int (Int32.ofInt 1)), some (.ref 22)]) (st' := []) (σ' := (zN L X (zhi s) R G nc ns)) rfl (fun rec => rfl) ?_
  refine zW.run 1 (pc' := 78) (ls' := [some (.ref 6), some (.int (Int32.ofInt 1)), some (.int (Int32.ofInt 1)), some (.ref 22)]) (st' := [.ref 22]) (σ' := (zN L X (zhi s) R G nc ns)) (fun n => rfl) ?_
  have f2 := zV_sid V (o := 22) (by omega)
  refine zW.run 1 (pc' := 81) (ls' := [some (.ref 6), some (.int (Int32.ofInt 1)), some (.int (Int32.ofInt 1)), some (.ref 22)]) (st' := [.int (Int32.ofInt (s 22 1))]) (σ' := (zN L X (zhi s) R G nc ns)) (fun n => rfl) ?_
  exact zW.jret rfl rfl hQ0
set_option maxHeartbeats 4000000 in
theorem t_S_sideFact_1_2 (S : zSR R) (V : zV g U F T B ph s)   (hQ0 : Q (.inl (some (.int (Int32.ofInt (s 22 2))))) (zN L X (zhi s) R G nc ns)) : zW ro 28 0 (zfst [.ref 6, .int (Int32.ofInt 1), .int (Int32.ofInt 2)] 4) [] (zN L X (zhi s) R G nc ns) Q := by
  show zW ro 28 0 [some (.ref 6), some (.int (Int32.ofInt 1)), some (.int (Int32.ofInt 2)), none] [] (zN L X (zhi s) R G nc ns) Q
  have f1 := zA_geo (zV_zA V)
  have hB0 := zV_B V
  refine zW.run 1 (pc' := 1) (ls' := [some (.ref 6), some (.int (Int32.ofInt 1)), some (.int (Int32.ofInt 2)), none]) (st' := [.ref 6]) (σ' := (zN L X (zhi s) R G nc ns)) (fun n => rfl) ?_
  refine zW.getf (v := .ref 7) rfl rfl (zr_6_0 S) ?_
  refine zW.run 1 (pc' := 5) (ls' := [some (.ref 6), some (.int (Int32.ofInt 1)), some (.int (Int32.ofInt 2)), none]) (st' := [.int (Int32.ofInt 1), .ref 7]) (σ' := (zN L X (zhi s) R G nc ns)) (fun n => rfl) ?_
  refine zW.callV rfl (by decide) rfl rfl rfl rfl rfl (Nat.le_of_ble_eq_true rfl) ?_
  refine t_Siege_of_1 S ?_
  show zW ro 28 8 [some (.ref 6), some (.int (Int32.ofInt 1)), some (.int (Int32.ofInt 2)), none] [.ref 22] (zN L X (zhi s) R G nc ns) Q
  refine zW.run 2 (pc' := 10) (ls' := [some (.ref 6), some (.int (Int32.ofInt 1)), some (.int (Int32.ofInt 2)), some (.ref 22)]) (st' := [.int (Int32.ofInt 2)]) (σ' := (zN L X (zhi s) R G nc ns)) (fun n => rfl) ?_
  refine zW.go (pc' := 82) (ls' := [some (.ref 6), some (.int (Int32.ofInt 1)), some (.int (Int32.ofInt 2)), some (.ref 22)]) (st' := []) (σ' := (zN L X (zhi s) R G nc ns)) rfl (fun rec => rfl) ?_
  refine zW.run 1 (pc' := 83) (ls' := [some (.ref 6), some (.int (Int32.ofInt 1)), some (.int (Int32.ofInt 2)), some (.ref 22)]) (st' := [.ref 22]) (σ' := (zN L X (zhi s) R G nc ns)) (fun n => rfl) ?_
  have f2 := zV_sid V (o := 22) (by omega)
  refine zW.run 1 (pc' := 86) (ls' := [some (.ref 6), some (.int (Int32.ofInt 1)), some (.int (Int32.ofInt 2)), some (.ref 22)]) (st' := [.int (Int32.ofInt (s 22 2))]) (σ' := (zN L X (zhi s) R G nc ns)) (fun n => rfl) ?_
  exact zW.jret rfl rfl hQ0
set_option maxHeartbeats 4000000 in
theorem t_S_sideFact_1_3 (S : zSR R) (V : zV g U F T B ph s)   (hQ0 : Q (.inl (some (.int (Int32.ofInt (s 22 3))))) (zN L X (zhi s) R G nc ns)) : zW ro 28 0 (zfst [.ref 6, .int (Int32.ofInt 1), .int (Int32.ofInt 3)] 4) [] (zN L X (zhi s) R G nc ns) Q := by
  show zW ro 28 0 [some (.ref 6), some (.int (Int32.ofInt 1)), some (.int (Int32.ofInt 3)), none] [] (zN L X (zhi s) R G nc ns) Q
  have f1 := zA_geo (zV_zA V)
  have hB0 := zV_B V
  refine zW.run 1 (pc' := 1) (ls' := [some (.ref 6), some (.int (Int32.ofInt 1)), some (.int (Int32.ofInt 3)), none]) (st' := [.ref 6]) (σ' := (zN L X (zhi s) R G nc ns)) (fun n => rfl) ?_
  refine zW.getf (v := .ref 7) rfl rfl (zr_6_0 S) ?_
  refine zW.run 1 (pc' := 5) (ls' := [some (.ref 6), some (.int (Int32.ofInt 1)), some (.int (Int32.ofInt 3)), none]) (st' := [.int (Int32.ofInt 1), .ref 7]) (σ' := (zN L X (zhi s) R G nc ns)) (fun n => rfl) ?_
  refine zW.callV rfl (by decide) rfl rfl rfl rfl rfl (Nat.le_of_ble_eq_true rfl) ?_
  refine t_Siege_of_1 S ?_
  show zW ro 28 8 [some (.ref 6), some (.int (Int32.ofInt 1)), some (.int (Int32.ofInt 3)), none] [.ref 22] (zN L X (zhi s) R G nc ns) Q
  refine zW.run 2 (pc' := 10) (ls' := [some (.ref 6), some (.int (Int32.ofInt 1)), some (.int (Int32.ofInt 3)), some (.ref 22)]) (st' := [.int (Int32.ofInt 3)]) (σ' := (zN L X (zhi s) R G nc ns)) (fun n => rfl) ?_
  refine zW.go (pc' := 87) (ls' := [some (.ref 6), some (.int (Int32.ofInt 1)), some (.int (Int32.ofInt 3)), some (.ref 22)]) (st' := []) (σ' := (zN L X (zhi s) R G nc ns)) rfl (fun rec => rfl) ?_
  refine zW.run 1 (pc' := 88) (ls' := [some (.ref 6), some (.int (Int32.ofInt 1)), some (.int (Int32.ofInt 3)), some (.ref 22)]) (st' := [.ref 22]) (σ' := (zN L X (zhi s) R G nc ns)) (fun n => rfl) ?_
  have f2 := zV_sid V (o := 22) (by omega)
  refine zW.run 1 (pc' := 91) (ls' := [some (.ref 6), some (.int (Int32.ofInt 1)), some (.int (Int32.ofInt 3)), some (.ref 22)]) (st' := [.int (Int32.ofInt (s 22 3))]) (σ' := (zN L X (zhi s) R G nc ns)) (fun n => rfl) ?_
  exact zW.jret rfl rfl hQ0
set_option maxHeartbeats 4000000 in
theorem t_S_sideFact_1_5 (S : zSR R) (V : zV g U F T B ph s)   (hQ0 : ∀ (v : Int), 0 ≤ v ∧ v ≤ 2400 → v = zmm s 1 12 → Q (.inl (some (.int (Int32.ofInt v)))) (zN L X (zhi s) R G nc ns)) : zW ro 28 0 (zfst [.ref 6, .int (Int32.ofInt 1), .int (Int32.ofInt 5)] 4) [] (zN L X (zhi s) R G nc ns) Q := by
  show zW ro 28 0 [some (.ref 6), some (.int (Int32.ofInt 1)), some (.int (Int32.ofInt 5)), none] [] (zN L X (zhi s) R G nc ns) Q
  have f1 := zA_geo (zV_zA V)
  have hB0 := zV_B V
  refine zW.run 1 (pc' := 1) (ls' := [some (.ref 6), some (.int (Int32.ofInt 1)), some (.int (Int32.ofInt 5)), none]) (st' := [.ref 6]) (σ' := (zN L X (zhi s) R G nc ns)) (fun n => rfl) ?_
  refine zW.getf (v := .ref 7) rfl rfl (zr_6_0 S) ?_
  refine zW.run 1 (pc' := 5) (ls' := [some (.ref 6), some (.int (Int32.ofInt 1)), some (.int (Int32.ofInt 5)), none]) (st' := [.int (Int32.ofInt 1), .ref 7]) (σ' := (zN L X (zhi s) R G nc ns)) (fun n => rfl) ?_
  refine zW.callV rfl (by decide) rfl rfl rfl rfl rfl (Nat.le_of_ble_eq_true rfl) ?_
  refine t_Siege_of_1 S ?_
  show zW ro 28 8 [some (.ref 6), some (.int (Int32.ofInt 1)), some (.int (Int32.ofInt 5)), none] [.ref 22] (zN L X (zhi s) R G nc ns) Q
  refine zW.run 2 (pc' := 10) (ls' := [some (.ref 6), some (.int (Int32.ofInt 1)), some (.int (Int32.ofInt 5)), some (.ref 22)]) (st' := [.int (Int32.ofInt 5)]) (σ' := (zN L X (zhi s) R G nc ns)) (fun n => rfl) ?_
  refine zW.go (pc' := 97) (ls' := [some (.ref 6), some (.int (Int32.ofInt 1)), some (.int (Int32.ofInt 5)), some (.ref 22)]) (st' := []) (σ' := (zN L X (zhi s) R G nc ns)) rfl (fun rec => rfl) ?_
  refine zW.run 1 (pc' := 98) (ls' := [some (.ref 6), some (.int (Int32.ofInt 1)), some (.int (Int32.ofInt 5)), some (.ref 22)]) (st' := [.ref 6]) (σ' := (zN L X (zhi s) R G nc ns)) (fun n => rfl) ?_
  refine zW.getf (v := .ref 7) rfl rfl (zr_6_0 S) ?_
  refine zW.run 1 (pc' := 102) (ls' := [some (.ref 6), some (.int (Int32.ofInt 1)), some (.int (Int32.ofInt 5)), some (.ref 22)]) (st' := [.int (Int32.ofInt 1), .ref 7]) (σ' := (zN L X (zhi s) R G nc ns)) (fun n => rfl) ?_
  refine zW.callV rfl (by decide) rfl rfl rfl rfl rfl (Nat.le_of_ble_eq_true rfl) ?_
  refine t_Siege_menOf S V (x := 1) (by omega) (fun v_2 f3 f4 => ?_)
  show zW ro 28 105 [some (.ref 6), some (.int (Int32.ofInt 1)), some (.int (Int32.ofInt 5)), some (.ref 22)] [.int (Int32.ofInt v_2)] (zN L X (zhi s) R G nc ns) Q
  exact zW.jret rfl rfl (hQ0 v_2 (by omega) (by omega))
set_option maxHeartbeats 4000000 in
theorem t_S_sideFact_1_6 (S : zSR R) (V : zV g U F T B ph s)   (hQ0 : ∀ (v : Int), 0 ≤ v ∧ v ≤ 12 → v = zco s 1 12 → Q (.inl (some (.int (Int32.ofInt v)))) (zN L X (zhi s) R G nc ns)) : zW ro 28 0 (zfst [.ref 6, .int (Int32.ofInt 1), .int (Int32.ofInt 6)] 4) [] (zN L X (zhi s) R G nc ns) Q := by
  show zW ro 28 0 [some (.ref 6), some (.int (Int32.ofInt 1)), some (.int (Int32.ofInt 6)), none] [] (zN L X (zhi s) R G nc ns) Q
  have f1 := zA_geo (zV_zA V)
  have hB0 := zV_B V
  refine zW.run 1 (pc' := 1) (ls' := [some (.ref 6), some (.int (Int32.ofInt 1)), some (.int (Int32.ofInt 6)), none]) (st' := [.ref 6]) (σ' := (zN L X (zhi s) R G nc ns)) (fun n => rfl) ?_
  refine zW.getf (v := .ref 7) rfl rfl (zr_6_0 S) ?_
  refine zW.run 1 (pc' := 5) (ls' := [some (.ref 6), some (.int (Int32.ofInt 1)), some (.int (Int32.ofInt 6)), none]) (st' := [.int (Int32.ofInt 1), .ref 7]) (σ' := (zN L X (zhi s) R G nc ns)) (fun n => rfl) ?_
  refine zW.callV rfl (by decide) rfl rfl rfl rfl rfl (Nat.le_of_ble_eq_true rfl) ?_
  refine t_Siege_of_1 S ?_
  show zW ro 28 8 [some (.ref 6), some (.int (Int32.ofInt 1)), some (.int (Int32.ofInt 6)), none] [.ref 22] (zN L X (zhi s) R G nc ns) Q
  refine zW.run 2 (pc' := 10) (ls' := [some (.ref 6), some (.int (Int32.ofInt 1)), some (.int (Int32.ofInt 6)), some (.ref 22)]) (st' := [.int (Int32.ofInt 6)]) (σ' := (zN L X (zhi s) R G nc ns)) (fun n => rfl) ?_
  refine zW.go (pc' := 106) (ls' := [some (.ref 6), some (.int (Int32.ofInt 1)), some (.int (Int32.ofInt 6)), some (.ref 22)]) (st' := []) (σ' := (zN L X (zhi s) R G nc ns)) rfl (fun rec => rfl) ?_
  refine zW.run 1 (pc' := 107) (ls' := [some (.ref 6), some (.int (Int32.ofInt 1)), some (.int (Int32.ofInt 6)), some (.ref 22)]) (st' := [.ref 6]) (σ' := (zN L X (zhi s) R G nc ns)) (fun n => rfl) ?_
  refine zW.getf (v := .ref 7) rfl rfl (zr_6_0 S) ?_
  refine zW.run 1 (pc' := 111) (ls' := [some (.ref 6), some (.int (Int32.ofInt 1)), some (.int (Int32.ofInt 6)), some (.ref 22)]) (st' := [.int (Int32.ofInt 1), .ref 7]) (σ' := (zN L X (zhi s) R G nc ns)) (fun n => rfl) ?_
  refine zW.callV rfl (by decide) rfl rfl rfl rfl rfl (Nat.le_of_ble_eq_true rfl) ?_
  refine t_Siege_companiesOf S V (x := 1) (by omega) (fun v_2 f3 f4 => ?_)
  show zW ro 28 114 [some (.ref 6), some (.int (Int32.ofInt 1)), some (.int (Int32.ofInt 6)), some (.ref 22)] [.int (Int32.ofInt v_2)] (zN L X (zhi s) R G nc ns) Q
  exact zW.jret rfl rfl (hQ0 v_2 (by omega) (by omega))
set_option maxHeartbeats 4000000 in
theorem t_S_sideFact_1_9 (S : zSR R) (V : zV g U F T B ph s)   (hQ0 : Q (.inl (some (.int (Int32.ofInt (s 22 7))))) (zN L X (zhi s) R G nc ns)) : zW ro 28 0 (zfst [.ref 6, .int (Int32.ofInt 1), .int (Int32.ofInt 9)] 4) [] (zN L X (zhi s) R G nc ns) Q := by
  show zW ro 28 0 [some (.ref 6), some (.int (Int32.ofInt 1)), some (.int (Int32.ofInt 9)), none] [] (zN L X (zhi s) R G nc ns) Q
  have f1 := zA_geo (zV_zA V)
  have hB0 := zV_B V
  refine zW.run 1 (pc' := 1) (ls' := [some (.ref 6), some (.int (Int32.ofInt 1)), some (.int (Int32.ofInt 9)), none]) (st' := [.ref 6]) (σ' := (zN L X (zhi s) R G nc ns)) (fun n => rfl) ?_
  refine zW.getf (v := .ref 7) rfl rfl (zr_6_0 S) ?_
  refine zW.run 1 (pc' := 5) (ls' := [some (.ref 6), some (.int (Int32.ofInt 1)), some (.int (Int32.ofInt 9)), none]) (st' := [.int (Int32.ofInt 1), .ref 7]) (σ' := (zN L X (zhi s) R G nc ns)) (fun n => rfl) ?_
  refine zW.callV rfl (by decide) rfl rfl rfl rfl rfl (Nat.le_of_ble_eq_true rfl) ?_
  refine t_Siege_of_1 S ?_
  show zW ro 28 8 [some (.ref 6), some (.int (Int32.ofInt 1)), some (.int (Int32.ofInt 9)), none] [.ref 22] (zN L X (zhi s) R G nc ns) Q
  refine zW.run 2 (pc' := 10) (ls' := [some (.ref 6), some (.int (Int32.ofInt 1)), some (.int (Int32.ofInt 9)), some (.ref 22)]) (st' := [.int (Int32.ofInt 9)]) (σ' := (zN L X (zhi s) R G nc ns)) (fun n => rfl) ?_
  refine zW.go (pc' := 125) (ls' := [some (.ref 6), some (.int (Int32.ofInt 1)), some (.int (Int32.ofInt 9)), some (.ref 22)]) (st' := []) (σ' := (zN L X (zhi s) R G nc ns)) rfl (fun rec => rfl) ?_
  refine zW.run 1 (pc' := 126) (ls' := [some (.ref 6), some (.int (Int32.ofInt 1)), some (.int (Int32.ofInt 9)), some (.ref 22)]) (st' := [.ref 22]) (σ' := (zN L X (zhi s) R G nc ns)) (fun n => rfl) ?_
  refine zW.run 1 (pc' := 129) (ls' := [some (.ref 6), some (.int (Int32.ofInt 1)), some (.int (Int32.ofInt 9)), some (.ref 22)]) (st' := [.int (Int32.ofInt (s 22 7))]) (σ' := (zN L X (zhi s) R G nc ns)) (fun n => rfl) ?_
  exact zW.jret rfl rfl hQ0
set_option maxHeartbeats 4000000 in
theorem t_S_sideFact_1_11 (S : zSR R) (V : zV g U F T B ph s)   (hQ0 : Q (.inl (some (.int (Int32.ofInt (s 22 9))))) (zN L X (zhi s) R G nc ns)) : zW ro 28 0 (zfst [.ref 6, .int (Int32.ofInt 1), .int (Int32.ofInt 11)] 4) [] (zN L X (zhi s) R G nc ns) Q := by
  show zW ro 28 0 [some (.ref 6), some (.int (Int32.ofInt 1)), some (.int (Int32.ofInt 11)), none] [] (zN L X (zhi s) R G nc ns) Q
  have f1 := zA_geo (zV_zA V)
  have hB0 := zV_B V
  refine zW.run 1 (pc' := 1) (ls' := [some (.ref 6), some (.int (Int32.ofInt 1)), some (.int (Int32.ofInt 11)), none]) (st' := [.ref 6]) (σ' := (zN L X (zhi s) R G nc ns)) (fun n => rfl) ?_
  refine zW.getf (v := .ref 7) rfl rfl (zr_6_0 S) ?_
  refine zW.run 1 (pc' := 5) (ls' := [some (.ref 6), some (.int (Int32.ofInt 1)), some (.int (Int32.ofInt 11)), none]) (st' := [.int (Int32.ofInt 1), .ref 7]) (σ' := (zN L X (zhi s) R G nc ns)) (fun n => rfl) ?_
  refine zW.callV rfl (by decide) rfl rfl rfl rfl rfl (Nat.le_of_ble_eq_true rfl) ?_
  refine t_Siege_of_1 S ?_
  show zW ro 28 8 [some (.ref 6), some (.int (Int32.ofInt 1)), some (.int (Int32.ofInt 11)), none] [.ref 22] (zN L X (zhi s) R G nc ns) Q
  refine zW.run 2 (pc' := 10) (ls' := [some (.ref 6), some (.int (Int32.ofInt 1)), some (.int (Int32.ofInt 11)), some (.ref 22)]) (st' := [.int (Int32.ofInt 11)]) (σ' := (zN L X (zhi s) R G nc ns)) (fun n => rfl) ?_
  refine zW.go (pc' := 135) (ls' := [some (.ref 6), some (.int (Int32.ofInt 1)), some (.int (Int32.ofInt 11)), some (.ref 22)]) (st' := []) (σ' := (zN L X (zhi s) R G nc ns)) rfl (fun rec => rfl) ?_
  refine zW.run 1 (pc' := 136) (ls' := [some (.ref 6), some (.int (Int32.ofInt 1)), some (.int (Int32.ofInt 11)), some (.ref 22)]) (st' := [.ref 22]) (σ' := (zN L X (zhi s) R G nc ns)) (fun n => rfl) ?_
  refine zW.run 1 (pc' := 139) (ls' := [some (.ref 6), some (.int (Int32.ofInt 1)), some (.int (Int32.ofInt 11)), some (.ref 22)]) (st' := [.int (Int32.ofInt (s 22 9))]) (σ' := (zN L X (zhi s) R G nc ns)) (fun n => rfl) ?_
  exact zW.jret rfl rfl hQ0
set_option maxHeartbeats 4000000 in
theorem t_S_sideFact_1_12 (S : zSR R) (V : zV g U F T B ph s)   (hQ0 : ∀ (v : Int), 0 ≤ v ∧ v ≤ 16 → v = zrg s 1 16 → Q (.inl (some (.int (Int32.ofInt v)))) (zN L X (zhi s) R G nc ns)) : zW ro 28 0 (zfst [.ref 6, .int (Int32.ofInt 1), .int (Int32.ofInt 12)] 4) [] (zN L X (zhi s) R G nc ns) Q := by
  show zW ro 28 0 [some (.ref 6), some (.int (Int32.ofInt 1)), some (.int (Int32.ofInt 12)), none] [] (zN L X (zhi s) R G nc ns) Q
  have f1 := zA_geo (zV_zA V)
  have hB0 := zV_B V
  refine zW.run 1 (pc' := 1) (ls' := [some (.ref 6), some (.int (Int32.ofInt 1)), some (.int (Int32.ofInt 12)), none]) (st' := [.ref 6]) (σ' := (zN L X (zhi s) R G nc ns)) (fun n => rfl) ?_
  refine zW.getf (v := .ref 7) rfl rfl (zr_6_0 S) ?_
  refine zW.run 1 (pc' := 5) (ls' := [some (.ref 6), some (.int (Int32.ofInt 1)), some (.int (Int32.ofInt 12)), none]) (st' := [.int (Int32.ofInt 1), .ref 7]) (σ' := (zN L X (zhi s) R G nc ns)) (fun n => rfl) ?_
  refine zW.callV rfl (by decide) rfl rfl rfl rfl rfl (Nat.le_of_ble_eq_true rfl) ?_
  refine t_Siege_of_1 S ?_
  show zW ro 28 8 [some (.ref 6), some (.int (Int32.ofInt 1)), some (.int (Int32.ofInt 12)), none] [.ref 22] (zN L X (zhi s) R G nc ns) Q
  refine zW.run 2 (pc' := 10) (ls' := [some (.ref 6), some (.int (Int32.ofInt 1)), some (.int (Int32.ofInt 12)), some (.ref 22)]) (st' := [.int (Int32.ofInt 12)]) (σ' := (zN L X (zhi s) R G nc ns)) (fun n => rfl) ?_
  refine zW.go (pc' := 140) (ls' := [some (.ref 6), some (.int (Int32.ofInt 1)), some (.int (Int32.ofInt 12)), some (.ref 22)]) (st' := []) (σ' := (zN L X (zhi s) R G nc ns)) rfl (fun rec => rfl) ?_
  refine zW.run 1 (pc' := 141) (ls' := [some (.ref 6), some (.int (Int32.ofInt 1)), some (.int (Int32.ofInt 12)), some (.ref 22)]) (st' := [.ref 6]) (σ' := (zN L X (zhi s) R G nc ns)) (fun n => rfl) ?_
  refine zW.getf (v := .ref 7) rfl rfl (zr_6_0 S) ?_
  refine zW.run 1 (pc' := 145) (ls' := [some (.ref 6), some (.int (Int32.ofInt 1)), some (.int (Int32.ofInt 12)), some (.ref 22)]) (st' := [.int (Int32.ofInt 1), .ref 7]) (σ' := (zN L X (zhi s) R G nc ns)) (fun n => rfl) ?_
  refine zW.callV rfl (by decide) rfl rfl rfl rfl rfl (Nat.le_of_ble_eq_true rfl) ?_
  refine t_Siege_readyGunsOf S V (x := 1) (by omega) (fun v_2 f3 f4 => ?_)
  show zW ro 28 148 [some (.ref 6), some (.int (Int32.ofInt 1)), some (.int (Int32.ofInt 12)), some (.ref 22)] [.int (Int32.ofInt v_2)] (zN L X (zhi s) R G nc ns) Q
  exact zW.jret rfl rfl (hQ0 v_2 (by omega) (by omega))
set_option maxHeartbeats 4000000 in
theorem t_S_sideFact (S : zSR R) (V : zV g U F T B ph s) {x : Int} {d : Int} (p0 : -2147483648 ≤ x ∧ x < 2147483648) (p1 : -2147483648 ≤ d ∧ d < 2147483648) (hQ0 : ∀ (v : Int), Q (.inl (some (.int (Int32.ofInt v)))) (zN L X (zhi s) R G nc ns)) : zW ro 28 0 (zfst [.ref 6, .int (Int32.ofInt x), .int (Int32.ofInt d)] 4) [] (zN L X (zhi s) R G nc ns) Q := by
  show zW ro 28 0 [some (.ref 6), some (.int (Int32.ofInt x)), some (.int (Int32.ofInt d)), none] [] (zN L X (zhi s) R G nc ns) Q
  have f1 := zA_geo (zV_zA V)
  have hB0 := zV_B V
  refine zW.run 1 (pc' := 1) (ls' := [some (.ref 6), some (.int (Int32.ofInt x)), some (.int (Int32.ofInt d)), none]) (st' := [.ref 6]) (σ' := (zN L X (zhi s) R G nc ns)) (fun n => rfl) ?_
  refine zW.getf (v := .ref 7) rfl rfl (zr_6_0 S) ?_
  refine zW.run 1 (pc' := 5) (ls' := [some (.ref 6), some (.int (Int32.ofInt x)), some (.int (Int32.ofInt d)), none]) (st' := [.int (Int32.ofInt x), .ref 7]) (σ' := (zN L X (zhi s) R G nc ns)) (fun n => rfl) ?_
  refine zW.callV rfl (by decide) rfl rfl rfl rfl rfl (Nat.le_of_ble_eq_true rfl) ?_
  refine t_Siege_of S (x := x) (by omega) (fun o_2 f3 => ?_)
  show zW ro 28 8 [some (.ref 6), some (.int (Int32.ofInt x)), some (.int (Int32.ofInt d)), none] [.ref o_2] (zN L X (zhi s) R G nc ns) Q
  refine zW.run 2 (pc' := 10) (ls' := [some (.ref 6), some (.int (Int32.ofInt x)), some (.int (Int32.ofInt d)), some (.ref o_2)]) (st' := [.int (Int32.ofInt d)]) (σ' := (zN L X (zhi s) R G nc ns)) (fun n => rfl) ?_
  refine zW.jtab rfl (by omega) (fun d4 => ?_) (fun j9 t9 d4 f9 => ?_) (by decide)
  · skip
    refine zW.run 1 (pc' := 141) (ls' := [some (.ref 6), some (.int (Int32.ofInt x)), some (.int (Int32.ofInt d)), some (.ref o_2)]) (st' := [.ref 6]) (σ' := (zN L X (zhi s) R G nc ns)) (fun n => rfl) ?_
    refine zW.getf (v := .ref 7) rfl rfl (zr_6_0 S) ?_
    refine zW.run 1 (pc' := 145) (ls' := [some (.ref 6), some (.int (Int32.ofInt x)), some (.int (Int32.ofInt d)), some (.ref o_2)]) (st' := [.int (Int32.ofInt x), .ref 7]) (σ' := (zN L X (zhi s) R G nc ns)) (fun n => rfl) ?_
    refine zW.callV rfl (by decide) rfl rfl rfl rfl rfl (Nat.le_of_ble_eq_true rfl) ?_
    refine t_Siege_readyGunsOf S V (x := x) (by omega) (fun v_5 f6 f7 => ?_)
    show zW ro 28 148 [some (.ref 6), some (.int (Int32.ofInt x)), some (.int (Int32.ofInt d)), some (.ref o_2)] [.int (Int32.ofInt v_5)] (zN L X (zhi s) R G nc ns) Q
    exact zW.jret rfl rfl (hQ0 v_5)
  match j9, d4, f9 with
  | 0, d4, f9 =>
    cases f9
    refine zW.run 1 (pc' := 73) (ls' := [some (.ref 6), some (.int (Int32.ofInt x)), some (.int (Int32.ofInt d)), some (.ref o_2)]) (st' := [.ref o_2]) (σ' := (zN L X (zhi s) R G nc ns)) (fun n => rfl) ?_
    have f8 := zV_sid V (o := o_2) (by omega)
    refine zW.jget (v := (s o_2 0)) rfl (zk_sid (by omega)) (fun _ _ _ => rfl) rfl ?_
    exact zW.jret rfl rfl (hQ0 (s o_2 0))
  | 1, d4, f9 =>
    cases f9
    refine zW.run 1 (pc' := 78) (ls' := [some (.ref 6), some (.int (Int32.ofInt x)), some (.int (Int32.ofInt d)), some (.ref o_2)]) (st' := [.ref o_2]) (σ' := (zN L X (zhi s) R G nc ns)) (fun n => rfl) ?_
    have f9 := zV_sid V (o := o_2) (by omega)
    refine zW.jget (v := (s o_2 1)) rfl (zk_sid (by omega)) (fun _ _ _ => rfl) rfl ?_
    exact zW.jret rfl rfl (hQ0 (s o_2 1))
  | 2, d4, f9 =>
    cases f9
    refine zW.run 1 (pc' := 83) (ls' := [some (.ref 6), some (.int (Int32.ofInt x)), some (.int (Int32.ofInt d)), some (.ref o_2)]) (st' := [.ref o_2]) (σ' := (zN L X (zhi s) R G nc ns)) (fun n => rfl) ?_
    have f10 := zV_sid V (o := o_2) (by omega)
    refine zW.jget (v := (s o_2 2)) rfl (zk_sid (by omega)) (fun _ _ _ => rfl) rfl ?_
    exact zW.jret rfl rfl (hQ0 (s o_2 2))
  | 3, d4, f9 =>
    cases f9
    refine zW.run 1 (pc' := 88) (ls' := [some (.ref 6), some (.int (Int32.ofInt x)), some (.int (Int32.ofInt d)), some (.ref o_2)]) (st' := [.ref o_2]) (σ' := (zN L X (zhi s) R G nc ns)) (fun n => rfl) ?_
    have f11 := zV_sid V (o := o_2) (by omega)
    refine zW.jget (v := (s o_2 3)) rfl (zk_sid (by omega)) (fun _ _ _ => rfl) rfl ?_
    exact zW.jret rfl rfl (hQ0 (s o_2 3))
  | 4, d4, f9 =>
    cases f9
    refine zW.run 1 (pc' := 93) (ls' := [some (.ref 6), some (.int (Int32.ofInt x)), some (.int (Int32.ofInt d)), some (.ref o_2)]) (st' := [.ref o_2]) (σ' := (zN L X (zhi s) R G nc ns)) (fun n => rfl) ?_
    refine zW.jget (v := (s o_2 4)) rfl (zk_sid (by omega)) (fun _ _ _ => rfl) rfl ?_
    exact zW.jret rfl rfl (hQ0 (s o_2 4))
  | 5, d4, f9 =>
    cases f9
    refine zW.run 1 (pc' := 98) (ls' := [some (.ref 6), some (.int (Int32.ofInt x)), some (.int (Int32.ofInt d)), some (.ref o_2)]) (st' := [.ref 6]) (σ' := (zN L X (zhi s) R G nc ns)) (fun n => rfl) ?_
    refine zW.getf (v := .ref 7) rfl rfl (zr_6_0 S) ?_
    refine zW.run 1 (pc' := 102) (ls' := [some (.ref 6), some (.int (Int32.ofInt x)), some (.int (Int32.ofInt d)), some (.ref o_2)]) (st' := [.int (Int32.ofInt x), .ref 7]) (σ' := (zN L X (zhi s) R G nc ns)) (fun n => rfl) ?_
    refine zW.callV rfl (by decide) rfl rfl rfl rfl rfl (Nat.le_of_ble_eq_true rfl) ?_
    refine t_Siege_menOf S V (x := x) (by omega) (fun v_12 f13 f14 => ?_)
    show zW ro 28 105 [some (.ref 6), some (.int (Int32.ofInt x)), some (.int (Int32.ofInt d)), some (.ref o_2)] [.int (Int32.ofInt v_12)] (zN L X (zhi s) R G nc ns) Q
    exact zW.jret rfl rfl (hQ0 v_12)
  | 6, d4, f9 =>
    cases f9
    refine zW.run 1 (pc' := 107) (ls' := [some (.ref 6), some (.int (Int32.ofInt x)), some (.int (Int32.ofInt d)), some (.ref o_2)]) (st' := [.ref 6]) (σ' := (zN L X (zhi s) R G nc ns)) (fun n => rfl) ?_
    refine zW.getf (v := .ref 7) rfl rfl (zr_6_0 S) ?_
    refine zW.run 1 (pc' := 111) (ls' := [some (.ref 6), some (.int (Int32.ofInt x)), some (.int (Int32.ofInt d)), some (.ref o_2)]) (st' := [.int (Int32.ofInt x), .ref 7]) (σ' := (zN L X (zhi s) R G nc ns)) (fun n => rfl) ?_
    refine zW.callV rfl (by decide) rfl rfl rfl rfl rfl (Nat.le_of_ble_eq_true rfl) ?_
    refine t_Siege_companiesOf S V (x := x) (by omega) (fun v_15 f16 f17 => ?_)
    show zW ro 28 114 [some (.ref 6), some (.int (Int32.ofInt x)), some (.int (Int32.ofInt d)), some (.ref o_2)] [.int (Int32.ofInt v_15)] (zN L X (zhi s) R G nc ns) Q
    exact zW.jret rfl rfl (hQ0 v_15)
  | 7, d4, f9 =>
    cases f9
    refine zW.run 1 (pc' := 116) (ls' := [some (.ref 6), some (.int (Int32.ofInt x)), some (.int (Int32.ofInt d)), some (.ref o_2)]) (st' := [.ref o_2]) (σ' := (zN L X (zhi s) R G nc ns)) (fun n => rfl) ?_
    refine zW.jget (v := (s o_2 5)) rfl (zk_sid (by omega)) (fun _ _ _ => rfl) rfl ?_
    exact zW.jret rfl rfl (hQ0 (s o_2 5))
  | 8, d4, f9 =>
    cases f9
    refine zW.run 1 (pc' := 121) (ls' := [some (.ref 6), some (.int (Int32.ofInt x)), some (.int (Int32.ofInt d)), some (.ref o_2)]) (st' := [.ref o_2]) (σ' := (zN L X (zhi s) R G nc ns)) (fun n => rfl) ?_
    refine zW.jget (v := (s o_2 6)) rfl (zk_sid (by omega)) (fun _ _ _ => rfl) rfl ?_
    exact zW.jret rfl rfl (hQ0 (s o_2 6))
  | 9, d4, f9 =>
    cases f9
    refine zW.run 1 (pc' := 126) (ls' := [some (.ref 6), some (.int (Int32.ofInt x)), some (.int (Int32.ofInt d)), some (.ref o_2)]) (st' := [.ref o_2]) (σ' := (zN L X (zhi s) R G nc ns)) (fun n => rfl) ?_
    refine zW.jget (v := (s o_2 7)) rfl (zk_sid (by omega)) (fun _ _ _ => rfl) rfl ?_
    exact zW.jret rfl rfl (hQ0 (s o_2 7))
  | 10, d4, f9 =>
    cases f9
    refine zW.run 1 (pc' := 131) (ls' := [some (.ref 6), some (.int (Int32.ofInt x)), some (.int (Int32.ofInt d)), some (.ref o_2)]) (st' := [.ref o_2]) (σ' := (zN L X (zhi s) R G nc ns)) (fun n => rfl) ?_
    refine zW.jget (v := (s o_2 8)) rfl (zk_sid (by omega)) (fun _ _ _ => rfl) rfl ?_
    exact zW.jret rfl rfl (hQ0 (s o_2 8))
  | 11, d4, f9 =>
    cases f9
    refine zW.run 1 (pc' := 136) (ls' := [some (.ref 6), some (.int (Int32.ofInt x)), some (.int (Int32.ofInt d)), some (.ref o_2)]) (st' := [.ref o_2]) (σ' := (zN L X (zhi s) R G nc ns)) (fun n => rfl) ?_
    refine zW.jget (v := (s o_2 9)) rfl (zk_sid (by omega)) (fun _ _ _ => rfl) rfl ?_
    exact zW.jret rfl rfl (hQ0 (s o_2 9))
  | n9 + 12, e9, f9 => cases f9
set_option maxHeartbeats 4000000 in
theorem t_S_siegeFact_0 (S : zSR R) (V : zV g U F T B ph s)   (hQ0 : Q (.inl (some (.int (Int32.ofInt (s 7 10))))) (zN L X (zhi s) R G nc ns)) : zW ro 29 0 (zfst [.ref 6, .int (Int32.ofInt 0)] 2) [] (zN L X (zhi s) R G nc ns) Q := by
  show zW ro 29 0 [some (.ref 6), some (.int (Int32.ofInt 0))] [] (zN L X (zhi s) R G nc ns) Q
  have f1 := zA_geo (zV_zA V)
  have hB0 := zV_B V
  refine zW.run 1 (pc' := 1) (ls' := [some (.ref 6), some (.int (Int32.ofInt 0))]) (st' := [.int (Int32.ofInt 0)]) (σ' := (zN L X (zhi s) R G nc ns)) (fun n => rfl) ?_
  refine zW.go (pc' := 64) (ls' := [some (.ref 6), some (.int (Int32.ofInt 0))]) (st' := []) (σ' := (zN L X (zhi s) R G nc ns)) rfl (fun rec => rfl) ?_
  refine zW.run 1 (pc' := 65) (ls' := [some (.ref 6), some (.int (Int32.ofInt 0))]) (st' := [.ref 6]) (σ' := (zN L X (zhi s) R G nc ns)) (fun n => rfl) ?_
  refine zW.getf (v := .ref 7) rfl rfl (zr_6_0 S) ?_
  have f2 := zV_sie V
  refine zW.run 1 (pc' := 71) (ls' := [some (.ref 6), some (.int (Int32.ofInt 0))]) (st' := [.int (Int32.ofInt (s 7 10))]) (σ' := (zN L X (zhi s) R G nc ns)) (fun n => rfl) ?_
  exact zW.jret rfl rfl hQ0
set_option maxHeartbeats 4000000 in
theorem t_S_siegeFact_1 (S : zSR R) (V : zV g U F T B ph s)   (hQ0 : Q (.inl (some (.int (Int32.ofInt (s 7 11))))) (zN L X (zhi s) R G nc ns)) : zW ro 29 0 (zfst [.ref 6, .int (Int32.ofInt 1)] 2) [] (zN L X (zhi s) R G nc ns) Q := by
  show zW ro 29 0 [some (.ref 6), some (.int (Int32.ofInt 1))] [] (zN L X (zhi s) R G nc ns) Q
  have f1 := zA_geo (zV_zA V)
  have hB0 := zV_B V
  refine zW.run 1 (pc' := 1) (ls' := [some (.ref 6), some (.int (Int32.ofInt 1))]) (st' := [.int (Int32.ofInt 1)]) (σ' := (zN L X (zhi s) R G nc ns)) (fun n => rfl) ?_
  refine zW.go (pc' := 72) (ls' := [some (.ref 6), some (.int (Int32.ofInt 1))]) (st' := []) (σ' := (zN L X (zhi s) R G nc ns)) rfl (fun rec => rfl) ?_
  refine zW.run 1 (pc' := 73) (ls' := [some (.ref 6), some (.int (Int32.ofInt 1))]) (st' := [.ref 6]) (σ' := (zN L X (zhi s) R G nc ns)) (fun n => rfl) ?_
  refine zW.getf (v := .ref 7) rfl rfl (zr_6_0 S) ?_
  have f2 := zV_sie V
  refine zW.run 1 (pc' := 79) (ls' := [some (.ref 6), some (.int (Int32.ofInt 1))]) (st' := [.int (Int32.ofInt (s 7 11))]) (σ' := (zN L X (zhi s) R G nc ns)) (fun n => rfl) ?_
  exact zW.jret rfl rfl hQ0
set_option maxHeartbeats 4000000 in
theorem t_S_siegeFact_2 (S : zSR R) (V : zV g U F T B ph s)   (hQ0 : Q (.inl (some (.int (Int32.ofInt (s 7 12))))) (zN L X (zhi s) R G nc ns)) : zW ro 29 0 (zfst [.ref 6, .int (Int32.ofInt 2)] 2) [] (zN L X (zhi s) R G nc ns) Q := by
  show zW ro 29 0 [some (.ref 6), some (.int (Int32.ofInt 2))] [] (zN L X (zhi s) R G nc ns) Q
  have f1 := zA_geo (zV_zA V)
  have hB0 := zV_B V
  refine zW.run 1 (pc' := 1) (ls' := [some (.ref 6), some (.int (Int32.ofInt 2))]) (st' := [.int (Int32.ofInt 2)]) (σ' := (zN L X (zhi s) R G nc ns)) (fun n => rfl) ?_
  refine zW.go (pc' := 80) (ls' := [some (.ref 6), some (.int (Int32.ofInt 2))]) (st' := []) (σ' := (zN L X (zhi s) R G nc ns)) rfl (fun rec => rfl) ?_
  refine zW.run 1 (pc' := 81) (ls' := [some (.ref 6), some (.int (Int32.ofInt 2))]) (st' := [.ref 6]) (σ' := (zN L X (zhi s) R G nc ns)) (fun n => rfl) ?_
  refine zW.getf (v := .ref 7) rfl rfl (zr_6_0 S) ?_
  have f2 := zV_sie V
  refine zW.run 1 (pc' := 87) (ls' := [some (.ref 6), some (.int (Int32.ofInt 2))]) (st' := [.int (Int32.ofInt (s 7 12))]) (σ' := (zN L X (zhi s) R G nc ns)) (fun n => rfl) ?_
  exact zW.jret rfl rfl hQ0
set_option maxHeartbeats 4000000 in
theorem t_S_siegeFact_4 (S : zSR R) (V : zV g U F T B ph s)   (hQ0 : Q (.inl (some (.int (Int32.ofInt (s 7 13))))) (zN L X (zhi s) R G nc ns)) : zW ro 29 0 (zfst [.ref 6, .int (Int32.ofInt 4)] 2) [] (zN L X (zhi s) R G nc ns) Q := by
  show zW ro 29 0 [some (.ref 6), some (.int (Int32.ofInt 4))] [] (zN L X (zhi s) R G nc ns) Q
  have f1 := zA_geo (zV_zA V)
  have hB0 := zV_B V
  refine zW.run 1 (pc' := 1) (ls' := [some (.ref 6), some (.int (Int32.ofInt 4))]) (st' := [.int (Int32.ofInt 4)]) (σ' := (zN L X (zhi s) R G nc ns)) (fun n => rfl) ?_
  refine zW.go (pc' := 96) (ls' := [some (.ref 6), some (.int (Int32.ofInt 4))]) (st' := []) (σ' := (zN L X (zhi s) R G nc ns)) rfl (fun rec => rfl) ?_
  refine zW.run 1 (pc' := 97) (ls' := [some (.ref 6), some (.int (Int32.ofInt 4))]) (st' := [.ref 6]) (σ' := (zN L X (zhi s) R G nc ns)) (fun n => rfl) ?_
  refine zW.getf (v := .ref 7) rfl rfl (zr_6_0 S) ?_
  have f2 := zV_sie V
  refine zW.run 1 (pc' := 103) (ls' := [some (.ref 6), some (.int (Int32.ofInt 4))]) (st' := [.int (Int32.ofInt (s 7 13))]) (σ' := (zN L X (zhi s) R G nc ns)) (fun n => rfl) ?_
  exact zW.jret rfl rfl hQ0
set_option maxHeartbeats 4000000 in
theorem t_S_siegeFact_5 (S : zSR R) (V : zV g U F T B ph s)   (hQ0 : Q (.inl (some (.int (Int32.ofInt (s 7 14))))) (zN L X (zhi s) R G nc ns)) : zW ro 29 0 (zfst [.ref 6, .int (Int32.ofInt 5)] 2) [] (zN L X (zhi s) R G nc ns) Q := by
  show zW ro 29 0 [some (.ref 6), some (.int (Int32.ofInt 5))] [] (zN L X (zhi s) R G nc ns) Q
  have f1 := zA_geo (zV_zA V)
  have hB0 := zV_B V
  refine zW.run 1 (pc' := 1) (ls' := [some (.ref 6), some (.int (Int32.ofInt 5))]) (st' := [.int (Int32.ofInt 5)]) (σ' := (zN L X (zhi s) R G nc ns)) (fun n => rfl) ?_
  refine zW.go (pc' := 104) (ls' := [some (.ref 6), some (.int (Int32.ofInt 5))]) (st' := []) (σ' := (zN L X (zhi s) R G nc ns)) rfl (fun rec => rfl) ?_
  refine zW.run 1 (pc' := 105) (ls' := [some (.ref 6), some (.int (Int32.ofInt 5))]) (st' := [.ref 6]) (σ' := (zN L X (zhi s) R G nc ns)) (fun n => rfl) ?_
  refine zW.getf (v := .ref 7) rfl rfl (zr_6_0 S) ?_
  have f2 := zV_sie V
  refine zW.run 1 (pc' := 111) (ls' := [some (.ref 6), some (.int (Int32.ofInt 5))]) (st' := [.int (Int32.ofInt (s 7 14))]) (σ' := (zN L X (zhi s) R G nc ns)) (fun n => rfl) ?_
  exact zW.jret rfl rfl hQ0
set_option maxHeartbeats 4000000 in
theorem t_S_siegeFact_12 (S : zSR R) (V : zV g U F T B ph s)   (hQ0 : Q (.inl (some (.int (Int32.ofInt (s 7 9))))) (zN L X (zhi s) R G nc ns)) : zW ro 29 0 (zfst [.ref 6, .int (Int32.ofInt 12)] 2) [] (zN L X (zhi s) R G nc ns) Q := by
  show zW ro 29 0 [some (.ref 6), some (.int (Int32.ofInt 12))] [] (zN L X (zhi s) R G nc ns) Q
  have f1 := zA_geo (zV_zA V)
  have hB0 := zV_B V
  refine zW.run 1 (pc' := 1) (ls' := [some (.ref 6), some (.int (Int32.ofInt 12))]) (st' := [.int (Int32.ofInt 12)]) (σ' := (zN L X (zhi s) R G nc ns)) (fun n => rfl) ?_
  refine zW.go (pc' := 186) (ls' := [some (.ref 6), some (.int (Int32.ofInt 12))]) (st' := []) (σ' := (zN L X (zhi s) R G nc ns)) rfl (fun rec => rfl) ?_
  refine zW.run 1 (pc' := 187) (ls' := [some (.ref 6), some (.int (Int32.ofInt 12))]) (st' := [.ref 6]) (σ' := (zN L X (zhi s) R G nc ns)) (fun n => rfl) ?_
  refine zW.getf (v := .ref 7) rfl rfl (zr_6_0 S) ?_
  have f2 := zV_sie V
  refine zW.run 1 (pc' := 193) (ls' := [some (.ref 6), some (.int (Int32.ofInt 12))]) (st' := [.int (Int32.ofInt (s 7 9))]) (σ' := (zN L X (zhi s) R G nc ns)) (fun n => rfl) ?_
  exact zW.jret rfl rfl hQ0
set_option maxHeartbeats 4000000 in
theorem t_S_siegeFact_3 (S : zSR R) (V : zV g U F T B ph s)   (hQ0 : ∀ (v : Int), 0 ≤ v ∧ v ≤ 5 → ((v = 3 ∨ v = 4) → 0 < zcn s 6 (g 2).toNat) → (0 < zcn s 6 (g 2).toNat → 3 ≤ v) → Q (.inl (some (.int (Int32.ofInt v)))) (zN L X (zhi s) R G nc ns)) : zW ro 29 0 (zfst [.ref 6, .int (Int32.ofInt 3)] 2) [] (zN L X (zhi s) R G nc ns) Q := by
  show zW ro 29 0 [some (.ref 6), some (.int (Int32.ofInt 3))] [] (zN L X (zhi s) R G nc ns) Q
  have f1 := zA_geo (zV_zA V)
  have hB0 := zV_B V
  refine zW.run 1 (pc' := 1) (ls' := [some (.ref 6), some (.int (Int32.ofInt 3))]) (st' := [.int (Int32.ofInt 3)]) (σ' := (zN L X (zhi s) R G nc ns)) (fun n => rfl) ?_
  refine zW.go (pc' := 88) (ls' := [some (.ref 6), some (.int (Int32.ofInt 3))]) (st' := []) (σ' := (zN L X (zhi s) R G nc ns)) rfl (fun rec => rfl) ?_
  refine zW.run 1 (pc' := 89) (ls' := [some (.ref 6), some (.int (Int32.ofInt 3))]) (st' := [.ref 6]) (σ' := (zN L X (zhi s) R G nc ns)) (fun n => rfl) ?_
  refine zW.getf (v := .ref 7) rfl rfl (zr_6_0 S) ?_
  refine zW.callV rfl (by decide) rfl rfl rfl rfl rfl (Nat.le_of_ble_eq_true rfl) ?_
  refine t_Siege_depth S V (fun v_2 f3 f4 f5 => ?_)
  show zW ro 29 95 [some (.ref 6), some (.int (Int32.ofInt 3))] [.int (Int32.ofInt v_2)] (zN L X (zhi s) R G nc ns) Q
  exact zW.jret rfl rfl (hQ0 v_2 (by omega) (by omega) (by omega))
set_option maxHeartbeats 4000000 in
theorem t_S_siegeFact_10 (S : zSR R) (V : zV g U F T B ph s)   (hQ0 : ∀ (v : Int), 0 ≤ v ∧ v ≤ 144 → v = zcn s 6 (g 2).toNat → Q (.inl (some (.int (Int32.ofInt v)))) (zN L X (zhi s) R G nc ns)) : zW ro 29 0 (zfst [.ref 6, .int (Int32.ofInt 10)] 2) [] (zN L X (zhi s) R G nc ns) Q := by
  show zW ro 29 0 [some (.ref 6), some (.int (Int32.ofInt 10))] [] (zN L X (zhi s) R G nc ns) Q
  have f1 := zA_geo (zV_zA V)
  have hB0 := zV_B V
  refine zW.run 1 (pc' := 1) (ls' := [some (.ref 6), some (.int (Int32.ofInt 10))]) (st' := [.int (Int32.ofInt 10)]) (σ' := (zN L X (zhi s) R G nc ns)) (fun n => rfl) ?_
  refine zW.go (pc' := 161) (ls' := [some (.ref 6), some (.int (Int32.ofInt 10))]) (st' := []) (σ' := (zN L X (zhi s) R G nc ns)) rfl (fun rec => rfl) ?_
  refine zW.run 1 (pc' := 162) (ls' := [some (.ref 6), some (.int (Int32.ofInt 10))]) (st' := [.ref 6]) (σ' := (zN L X (zhi s) R G nc ns)) (fun n => rfl) ?_
  refine zW.getf (v := .ref 7) rfl rfl (zr_6_0 S) ?_
  refine zW.getf (v := .ref 8) rfl rfl (zr_7_0 S) ?_
  refine zW.run 1 (pc' := 170) (ls' := [some (.ref 6), some (.int (Int32.ofInt 10))]) (st' := [.int (Int32.ofInt 6), .ref 8]) (σ' := (zN L X (zhi s) R G nc ns)) (fun n => rfl) ?_
  refine zW.callV rfl (by decide) rfl rfl rfl rfl rfl (Nat.le_of_ble_eq_true rfl) ?_
  refine t_Ground_countOf S V (x := 6) (by omega) (fun v_2 f3 f4 => ?_)
  show zW ro 29 173 [some (.ref 6), some (.int (Int32.ofInt 10))] [.int (Int32.ofInt v_2)] (zN L X (zhi s) R G nc ns) Q
  exact zW.jret rfl rfl (hQ0 v_2 (by omega) (by omega))
set_option maxHeartbeats 4000000 in
theorem t_S_siegeFact_11 (S : zSR R) (V : zV g U F T B ph s)   (hQ0 : ∀ (v : Int), 0 ≤ v ∧ v ≤ 144 → v = zcn s 5 (g 2).toNat → Q (.inl (some (.int (Int32.ofInt v)))) (zN L X (zhi s) R G nc ns)) : zW ro 29 0 (zfst [.ref 6, .int (Int32.ofInt 11)] 2) [] (zN L X (zhi s) R G nc ns) Q := by
  show zW ro 29 0 [some (.ref 6), some (.int (Int32.ofInt 11))] [] (zN L X (zhi s) R G nc ns) Q
  have f1 := zA_geo (zV_zA V)
  have hB0 := zV_B V
  refine zW.run 1 (pc' := 1) (ls' := [some (.ref 6), some (.int (Int32.ofInt 11))]) (st' := [.int (Int32.ofInt 11)]) (σ' := (zN L X (zhi s) R G nc ns)) (fun n => rfl) ?_
  refine zW.go (pc' := 174) (ls' := [some (.ref 6), some (.int (Int32.ofInt 11))]) (st' := []) (σ' := (zN L X (zhi s) R G nc ns)) rfl (fun rec => rfl) ?_
  refine zW.run 1 (pc' := 175) (ls' := [some (.ref 6), some (.int (Int32.ofInt 11))]) (st' := [.ref 6]) (σ' := (zN L X (zhi s) R G nc ns)) (fun n => rfl) ?_
  refine zW.getf (v := .ref 7) rfl rfl (zr_6_0 S) ?_
  refine zW.getf (v := .ref 8) rfl rfl (zr_7_0 S) ?_
  refine zW.run 1 (pc' := 182) (ls' := [some (.ref 6), some (.int (Int32.ofInt 11))]) (st' := [.int (Int32.ofInt 5), .ref 8]) (σ' := (zN L X (zhi s) R G nc ns)) (fun n => rfl) ?_
  refine zW.callV rfl (by decide) rfl rfl rfl rfl rfl (Nat.le_of_ble_eq_true rfl) ?_
  refine t_Ground_countOf S V (x := 5) (by omega) (fun v_2 f3 f4 => ?_)
  show zW ro 29 185 [some (.ref 6), some (.int (Int32.ofInt 11))] [.int (Int32.ofInt v_2)] (zN L X (zhi s) R G nc ns) Q
  exact zW.jret rfl rfl (hQ0 v_2 (by omega) (by omega))
set_option maxHeartbeats 4000000 in
theorem t_S_siegeFact (S : zSR R) (V : zV g U F T B ph s) {d : Int} (p0 : -2147483648 ≤ d ∧ d < 2147483648) (hQ0 : ∀ (v : Int), Q (.inl (some (.int (Int32.ofInt v)))) (zN L X (zhi s) R G nc ns)) : zW ro 29 0 (zfst [.ref 6, .int (Int32.ofInt d)] 2) [] (zN L X (zhi s) R G nc ns) Q := by
  show zW ro 29 0 [some (.ref 6), some (.int (Int32.ofInt d))] [] (zN L X (zhi s) R G nc ns) Q
  have f1 := zA_geo (zV_zA V)
  have hB0 := zV_B V
  refine zW.run 1 (pc' := 1) (ls' := [some (.ref 6), some (.int (Int32.ofInt d))]) (st' := [.int (Int32.ofInt d)]) (σ' := (zN L X (zhi s) R G nc ns)) (fun n => rfl) ?_
  refine zW.jtab rfl (by omega) (fun d2 => ?_) (fun j9 t9 d2 f9 => ?_) (by decide)
  · skip
    refine zW.run 1 (pc' := 187) (ls' := [some (.ref 6), some (.int (Int32.ofInt d))]) (st' := [.ref 6]) (σ' := (zN L X (zhi s) R G nc ns)) (fun n => rfl) ?_
    refine zW.getf (v := .ref 7) rfl rfl (zr_6_0 S) ?_
    have f3 := zV_sie V
    refine zW.run 1 (pc' := 193) (ls' := [some (.ref 6), some (.int (Int32.ofInt d))]) (st' := [.int (Int32.ofInt (s 7 9))]) (σ' := (zN L X (zhi s) R G nc ns)) (fun n => rfl) ?_
    exact zW.jret rfl rfl (hQ0 (s 7 9))
  match j9, d2, f9 with
  | 0, d2, f9 =>
    cases f9
    refine zW.run 1 (pc' := 65) (ls' := [some (.ref 6), some (.int (Int32.ofInt d))]) (st' := [.ref 6]) (σ' := (zN L X (zhi s) R G nc ns)) (fun n => rfl) ?_
    refine zW.getf (v := .ref 7) rfl rfl (zr_6_0 S) ?_
    have f4 := zV_sie V
    refine zW.run 1 (pc' := 71) (ls' := [some (.ref 6), some (.int (Int32.ofInt d))]) (st' := [.int (Int32.ofInt (s 7 10))]) (σ' := (zN L X (zhi s) R G nc ns)) (fun n => rfl) ?_
    exact zW.jret rfl rfl (hQ0 (s 7 10))
  | 1, d2, f9 =>
    cases f9
    refine zW.run 1 (pc' := 73) (ls' := [some (.ref 6), some (.int (Int32.ofInt d))]) (st' := [.ref 6]) (σ' := (zN L X (zhi s) R G nc ns)) (fun n => rfl) ?_
    refine zW.getf (v := .ref 7) rfl rfl (zr_6_0 S) ?_
    have f5 := zV_sie V
    refine zW.run 1 (pc' := 79) (ls' := [some (.ref 6), some (.int (Int32.ofInt d))]) (st' := [.int (Int32.ofInt (s 7 11))]) (σ' := (zN L X (zhi s) R G nc ns)) (fun n => rfl) ?_
    exact zW.jret rfl rfl (hQ0 (s 7 11))
  | 2, d2, f9 =>
    cases f9
    refine zW.run 1 (pc' := 81) (ls' := [some (.ref 6), some (.int (Int32.ofInt d))]) (st' := [.ref 6]) (σ' := (zN L X (zhi s) R G nc ns)) (fun n => rfl) ?_
    refine zW.getf (v := .ref 7) rfl rfl (zr_6_0 S) ?_
    have f6 := zV_sie V
    refine zW.run 1 (pc' := 87) (ls' := [some (.ref 6), some (.int (Int32.ofInt d))]) (st' := [.int (Int32.ofInt (s 7 12))]) (σ' := (zN L X (zhi s) R G nc ns)) (fun n => rfl) ?_
    exact zW.jret rfl rfl (hQ0 (s 7 12))
  | 3, d2, f9 =>
    cases f9
    refine zW.run 1 (pc' := 89) (ls' := [some (.ref 6), some (.int (Int32.ofInt d))]) (st' := [.ref 6]) (σ' := (zN L X (zhi s) R G nc ns)) (fun n => rfl) ?_
    refine zW.getf (v := .ref 7) rfl rfl (zr_6_0 S) ?_
    refine zW.callV rfl (by decide) rfl rfl rfl rfl rfl (Nat.le_of_ble_eq_true rfl) ?_
    refine t_Siege_depth S V (fun v_7 f8 f9 f10 => ?_)
    show zW ro 29 95 [some (.ref 6), some (.int (Int32.ofInt d))] [.int (Int32.ofInt v_7)] (zN L X (zhi s) R G nc ns) Q
    exact zW.jret rfl rfl (hQ0 v_7)
  | 4, d2, f9 =>
    cases f9
    refine zW.run 1 (pc' := 97) (ls' := [some (.ref 6), some (.int (Int32.ofInt d))]) (st' := [.ref 6]) (σ' := (zN L X (zhi s) R G nc ns)) (fun n => rfl) ?_
    refine zW.getf (v := .ref 7) rfl rfl (zr_6_0 S) ?_
    have f11 := zV_sie V
    refine zW.run 1 (pc' := 103) (ls' := [some (.ref 6), some (.int (Int32.ofInt d))]) (st' := [.int (Int32.ofInt (s 7 13))]) (σ' := (zN L X (zhi s) R G nc ns)) (fun n => rfl) ?_
    exact zW.jret rfl rfl (hQ0 (s 7 13))
  | 5, d2, f9 =>
    cases f9
    refine zW.run 1 (pc' := 105) (ls' := [some (.ref 6), some (.int (Int32.ofInt d))]) (st' := [.ref 6]) (σ' := (zN L X (zhi s) R G nc ns)) (fun n => rfl) ?_
    refine zW.getf (v := .ref 7) rfl rfl (zr_6_0 S) ?_
    have f12 := zV_sie V
    refine zW.run 1 (pc' := 111) (ls' := [some (.ref 6), some (.int (Int32.ofInt d))]) (st' := [.int (Int32.ofInt (s 7 14))]) (σ' := (zN L X (zhi s) R G nc ns)) (fun n => rfl) ?_
    exact zW.jret rfl rfl (hQ0 (s 7 14))
  | 6, d2, f9 =>
    cases f9
    refine zW.run 1 (pc' := 113) (ls' := [some (.ref 6), some (.int (Int32.ofInt d))]) (st' := [.ref 6]) (σ' := (zN L X (zhi s) R G nc ns)) (fun n => rfl) ?_
    refine zW.getf (v := .ref 7) rfl rfl (zr_6_0 S) ?_
    have f13 := zV_sie V
    refine zW.run 1 (pc' := 119) (ls' := [some (.ref 6), some (.int (Int32.ofInt d))]) (st' := [.int (Int32.ofInt (s 7 16))]) (σ' := (zN L X (zhi s) R G nc ns)) (fun n => rfl) ?_
    exact zW.jret rfl rfl (hQ0 (s 7 16))
  | 7, d2, f9 =>
    cases f9
    refine zW.run 1 (pc' := 121) (ls' := [some (.ref 6), some (.int (Int32.ofInt d))]) (st' := [.ref 6]) (σ' := (zN L X (zhi s) R G nc ns)) (fun n => rfl) ?_
    refine zW.getf (v := .ref 7) rfl rfl (zr_6_0 S) ?_
    refine zW.getf (v := .ref 23) rfl rfl (zr_7_6 S) ?_
    refine zW.run 1 (pc' := 130) (ls' := [some (.ref 6), some (.int (Int32.ofInt d))]) (st' := [.int (Int32.ofInt (s 23 3))]) (σ' := (zN L X (zhi s) R G nc ns)) (fun n => rfl) ?_
    exact zW.jret rfl rfl (hQ0 (s 23 3))
  | 8, d2, f9 =>
    cases f9
    refine zW.run 1 (pc' := 132) (ls' := [some (.ref 6), some (.int (Int32.ofInt d))]) (st' := [.ref 6]) (σ' := (zN L X (zhi s) R G nc ns)) (fun n => rfl) ?_
    refine zW.getf (v := .ref 7) rfl rfl (zr_6_0 S) ?_
    refine zW.getf (v := .ref 23) rfl rfl (zr_7_6 S) ?_
    refine zW.run 1 (pc' := 141) (ls' := [some (.ref 6), some (.int (Int32.ofInt d))]) (st' := [.int (Int32.ofInt (s 23 4))]) (σ' := (zN L X (zhi s) R G nc ns)) (fun n => rfl) ?_
    exact zW.jret rfl rfl (hQ0 (s 23 4))
  | 9, d2, f9 =>
    cases f9
    refine zW.run 1 (pc' := 143) (ls' := [some (.ref 6), some (.int (Int32.ofInt d))]) (st' := [.ref 6]) (σ' := (zN L X (zhi s) R G nc ns)) (fun n => rfl) ?_
    refine zW.getf (v := .ref 7) rfl rfl (zr_6_0 S) ?_
    refine zW.getf (v := .ref 23) rfl rfl (zr_7_6 S) ?_
    refine zW.run 1 (pc' := 152) (ls' := [some (.ref 6), some (.int (Int32.ofInt d))]) (st' := [.int (Int32.ofInt (s 23 6))]) (σ' := (zN L X (zhi s) R G nc ns)) (fun n => rfl) ?_
    refine zW.if_eq rfl (fun _ => ?_) (fun _ => ?_)
    · skip
      refine zW.run 1 (pc' := 160) (ls' := [some (.ref 6), some (.int (Int32.ofInt d))]) (st' := [.int (Int32.ofInt 0)]) (σ' := (zN L X (zhi s) R G nc ns)) (fun n => rfl) ?_
      exact zW.jret rfl rfl (hQ0 0)
    · skip
      refine zW.run 2 (pc' := 160) (ls' := [some (.ref 6), some (.int (Int32.ofInt d))]) (st' := [.int (Int32.ofInt 1)]) (σ' := (zN L X (zhi s) R G nc ns)) (fun n => rfl) ?_
      exact zW.jret rfl rfl (hQ0 1)
  | 10, d2, f9 =>
    cases f9
    refine zW.run 1 (pc' := 162) (ls' := [some (.ref 6), some (.int (Int32.ofInt d))]) (st' := [.ref 6]) (σ' := (zN L X (zhi s) R G nc ns)) (fun n => rfl) ?_
    refine zW.getf (v := .ref 7) rfl rfl (zr_6_0 S) ?_
    refine zW.getf (v := .ref 8) rfl rfl (zr_7_0 S) ?_
    refine zW.run 1 (pc' := 170) (ls' := [some (.ref 6), some (.int (Int32.ofInt d))]) (st' := [.int (Int32.ofInt 6), .ref 8]) (σ' := (zN L X (zhi s) R G nc ns)) (fun n => rfl) ?_
    refine zW.callV rfl (by decide) rfl rfl rfl rfl rfl (Nat.le_of_ble_eq_true rfl) ?_
    refine t_Ground_countOf S V (x := 6) (by omega) (fun v_15 f16 f17 => ?_)
    show zW ro 29 173 [some (.ref 6), some (.int (Int32.ofInt d))] [.int (Int32.ofInt v_15)] (zN L X (zhi s) R G nc ns) Q
    exact zW.jret rfl rfl (hQ0 v_15)
  | 11, d2, f9 =>
    cases f9
    refine zW.run 1 (pc' := 175) (ls' := [some (.ref 6), some (.int (Int32.ofInt d))]) (st' := [.ref 6]) (σ' := (zN L X (zhi s) R G nc ns)) (fun n => rfl) ?_
    refine zW.getf (v := .ref 7) rfl rfl (zr_6_0 S) ?_
    refine zW.getf (v := .ref 8) rfl rfl (zr_7_0 S) ?_
    refine zW.run 1 (pc' := 182) (ls' := [some (.ref 6), some (.int (Int32.ofInt d))]) (st' := [.int (Int32.ofInt 5), .ref 8]) (σ' := (zN L X (zhi s) R G nc ns)) (fun n => rfl) ?_
    refine zW.callV rfl (by decide) rfl rfl rfl rfl rfl (Nat.le_of_ble_eq_true rfl) ?_
    refine t_Ground_countOf S V (x := 5) (by omega) (fun v_18 f19 f20 => ?_)
    show zW ro 29 185 [some (.ref 6), some (.int (Int32.ofInt d))] [.int (Int32.ofInt v_18)] (zN L X (zhi s) R G nc ns) Q
    exact zW.jret rfl rfl (hQ0 v_18)
  | n9 + 12, e9, f9 => cases f9
set_option maxHeartbeats 4000000 in
theorem t_S_isSide (S : zSR R) {x : Int} (p0 : -2147483648 ≤ x ∧ x < 2147483648) (hQ0 : x = 0 ∨ x = 1 → Q (.inl (some (.int (Int32.ofInt 1)))) (zN L X (zhi s) R G nc ns)) (hQ1 : ¬ (x = 0 ∨ x = 1) → Q (.inl (some (.int (Int32.ofInt 0)))) (zN L X (zhi s) R G nc ns)) : zW ro 10 0 (zfst [.int (Int32.ofInt x)] 1) [] (zN L X (zhi s) R G nc ns) Q := by
  show zW ro 10 0 [some (.int (Int32.ofInt x))] [] (zN L X (zhi s) R G nc ns) Q
  refine zW.run 1 (pc' := 1) (ls' := [some (.int (Int32.ofInt x))]) (st' := [.int (Int32.ofInt x)]) (σ' := (zN L X (zhi s) R G nc ns)) (fun n => rfl) ?_
  refine zW.jif_eq rfl (by omega) (fun c1 => ?_) (fun c1 => ?_)
  · skip
    refine zW.run 2 (pc' := 14) (ls' := [some (.int (Int32.ofInt x))]) (st' := [.int (Int32.ofInt 1)]) (σ' := (zN L X (zhi s) R G nc ns)) (fun n => rfl) ?_
    exact zW.jretb rfl rfl (by decide) (hQ0 (by omega))
  · skip
    refine zW.run 2 (pc' := 6) (ls' := [some (.int (Int32.ofInt x))]) (st' := [.int (Int32.ofInt 1), .int (Int32.ofInt x)]) (σ' := (zN L X (zhi s) R G nc ns)) (fun n => rfl) ?_
    refine zW.jcmp_ne rfl (by omega) (fun c2 => ?_) (fun c2 => ?_)
    · skip
      refine zW.run 1 (pc' := 14) (ls' := [some (.int (Int32.ofInt x))]) (st' := [.int (Int32.ofInt 0)]) (σ' := (zN L X (zhi s) R G nc ns)) (fun n => rfl) ?_
      exact zW.jretb rfl rfl (by decide) (hQ1 (by omega))
    · skip
      refine zW.run 2 (pc' := 14) (ls' := [some (.int (Int32.ofInt x))]) (st' := [.int (Int32.ofInt 1)]) (σ' := (zN L X (zhi s) R G nc ns)) (fun n => rfl) ?_
      exact zW.jretb rfl rfl (by decide) (hQ0 (by omega))
set_option maxHeartbeats 4000000 in
theorem t_S_isSide_0 (S : zSR R)   (hQ0 : Q (.inl (some (.int (Int32.ofInt 1)))) (zN L X (zhi s) R G nc ns)) : zW ro 10 0 (zfst [.int (Int32.ofInt 0)] 1) [] (zN L X (zhi s) R G nc ns) Q := by
  show zW ro 10 0 [some (.int (Int32.ofInt 0))] [] (zN L X (zhi s) R G nc ns) Q
  refine zW.run 4 (pc' := 14) (ls' := [some (.int (Int32.ofInt 0))]) (st' := [.int (Int32.ofInt 1)]) (σ' := (zN L X (zhi s) R G nc ns)) (fun n => rfl) ?_
  exact zW.jretb rfl rfl (by decide) hQ0
set_option maxHeartbeats 4000000 in
theorem t_S_isSide_1 (S : zSR R)   (hQ0 : Q (.inl (some (.int (Int32.ofInt 1)))) (zN L X (zhi s) R G nc ns)) : zW ro 10 0 (zfst [.int (Int32.ofInt 1)] 1) [] (zN L X (zhi s) R G nc ns) Q := by
  show zW ro 10 0 [some (.int (Int32.ofInt 1))] [] (zN L X (zhi s) R G nc ns) Q
  refine zW.run 7 (pc' := 14) (ls' := [some (.int (Int32.ofInt 1))]) (st' := [.int (Int32.ofInt 1)]) (σ' := (zN L X (zhi s) R G nc ns)) (fun n => rfl) ?_
  exact zW.jretb rfl rfl (by decide) hQ0
set_option maxHeartbeats 4000000 in
theorem t_S_ofSquare_0 (S : zSR R) (V : zV g U F T B ph s) {x : Int} (p0 : 0 ≤ x ∧ x < g 2) (hQ0 : Q (.inl (some (.int (Int32.ofInt (s 9 x.toNat))))) (zN L X (zhi s) R G nc ns)) : zW ro 23 0 (zfst [.ref 6, .int (Int32.ofInt x), .int (Int32.ofInt 0)] 3) [] (zN L X (zhi s) R G nc ns) Q := by
  show zW ro 23 0 [some (.ref 6), some (.int (Int32.ofInt x)), some (.int (Int32.ofInt 0))] [] (zN L X (zhi s) R G nc ns) Q
  have f1 := zA_geo (zV_zA V)
  have hB0 := zV_B V
  refine zW.run 1 (pc' := 1) (ls' := [some (.ref 6), some (.int (Int32.ofInt x)), some (.int (Int32.ofInt 0))]) (st' := [.ref 6]) (σ' := (zN L X (zhi s) R G nc ns)) (fun n => rfl) ?_
  refine zW.getf (v := .ref 7) rfl rfl (zr_6_0 S) ?_
  refine zW.getf (v := .ref 8) rfl rfl (zr_7_0 S) ?_
  refine zW.run 1 (pc' := 8) (ls' := [some (.ref 6), some (.int (Int32.ofInt x)), some (.int (Int32.ofInt 0))]) (st' := [.int (Int32.ofInt x), .ref 8]) (σ' := (zN L X (zhi s) R G nc ns)) (fun n => rfl) ?_
  refine zW.callV rfl (by decide) rfl rfl rfl rfl rfl (Nat.le_of_ble_eq_true rfl) ?_
  refine t_Ground_isOn S (zV_zA V) (x := x) (by omega) (fun f2 f3 => ?_) (fun f4 => ?_)
  · skip
    show zW ro 23 11 [some (.ref 6), some (.int (Int32.ofInt x)), some (.int (Int32.ofInt 0))] [.int (Int32.ofInt 1)] (zN L X (zhi s) R G nc ns) Q
    refine zW.run 9 (pc' := 48) (ls' := [some (.ref 6), some (.int (Int32.ofInt x)), some (.int (Int32.ofInt 0))]) (st' := [.int (Int32.ofInt 0), .int (Int32.ofInt x), .ref 6]) (σ' := (zN L X (zhi s) R G nc ns)) (fun n => rfl) ?_
    refine zW.callV rfl (by decide) rfl rfl rfl rfl rfl (Nat.le_of_ble_eq_true rfl) ?_
    refine t_S_squareFact_0 S V (x := x) (by omega) ?_
    show zW ro 23 51 [some (.ref 6), some (.int (Int32.ofInt x)), some (.int (Int32.ofInt 0))] [.int (Int32.ofInt (s 9 x.toNat))] (zN L X (zhi s) R G nc ns) Q
    have f5 := zV_sq V (k := x.toNat) (by omega)
    exact zW.jret rfl rfl hQ0
  · skip
    show zW ro 23 11 [some (.ref 6), some (.int (Int32.ofInt x)), some (.int (Int32.ofInt 0))] [.int (Int32.ofInt 0)] (zN L X (zhi s) R G nc ns) Q
    refine zW.run 1 (pc' := 14) (ls' := [some (.ref 6), some (.int (Int32.ofInt x)), some (.int (Int32.ofInt 0))]) (st' := []) (σ' := (zN L X (zhi s) R G nc ns)) (fun n => rfl) ?_
    exfalso
    omega
set_option maxHeartbeats 4000000 in
theorem t_S_ofSquare_2 (S : zSR R) (V : zV g U F T B ph s) {x : Int} (p0 : 0 ≤ x ∧ x < g 2) (hQ0 : Q (.inl (some (.int (Int32.ofInt (s 11 x.toNat))))) (zN L X (zhi s) R G nc ns)) : zW ro 23 0 (zfst [.ref 6, .int (Int32.ofInt x), .int (Int32.ofInt 2)] 3) [] (zN L X (zhi s) R G nc ns) Q := by
  show zW ro 23 0 [some (.ref 6), some (.int (Int32.ofInt x)), some (.int (Int32.ofInt 2))] [] (zN L X (zhi s) R G nc ns) Q
  have f1 := zA_geo (zV_zA V)
  have hB0 := zV_B V
  refine zW.run 1 (pc' := 1) (ls' := [some (.ref 6), some (.int (Int32.ofInt x)), some (.int (Int32.ofInt 2))]) (st' := [.ref 6]) (σ' := (zN L X (zhi s) R G nc ns)) (fun n => rfl) ?_
  refine zW.getf (v := .ref 7) rfl rfl (zr_6_0 S) ?_
  refine zW.getf (v := .ref 8) rfl rfl (zr_7_0 S) ?_
  refine zW.run 1 (pc' := 8) (ls' := [some (.ref 6), some (.int (Int32.ofInt x)), some (.int (Int32.ofInt 2))]) (st' := [.int (Int32.ofInt x), .ref 8]) (σ' := (zN L X (zhi s) R G nc ns)) (fun n => rfl) ?_
  refine zW.callV rfl (by decide) rfl rfl rfl rfl rfl (Nat.le_of_ble_eq_true rfl) ?_
  refine t_Ground_isOn S (zV_zA V) (x := x) (by omega) (fun f2 f3 => ?_) (fun f4 => ?_)
  · skip
    show zW ro 23 11 [some (.ref 6), some (.int (Int32.ofInt x)), some (.int (Int32.ofInt 2))] [.int (Int32.ofInt 1)] (zN L X (zhi s) R G nc ns) Q
    refine zW.run 9 (pc' := 48) (ls' := [some (.ref 6), some (.int (Int32.ofInt x)), some (.int (Int32.ofInt 2))]) (st' := [.int (Int32.ofInt 2), .int (Int32.ofInt x), .ref 6]) (σ' := (zN L X (zhi s) R G nc ns)) (fun n => rfl) ?_
    refine zW.callV rfl (by decide) rfl rfl rfl rfl rfl (Nat.le_of_ble_eq_true rfl) ?_
    refine t_S_squareFact_2 S V (x := x) (by omega) ?_
    show zW ro 23 51 [some (.ref 6), some (.int (Int32.ofInt x)), some (.int (Int32.ofInt 2))] [.int (Int32.ofInt (s 11 x.toNat))] (zN L X (zhi s) R G nc ns) Q
    have f5 := zV_sq V (k := x.toNat) (by omega)
    exact zW.jret rfl rfl hQ0
  · skip
    show zW ro 23 11 [some (.ref 6), some (.int (Int32.ofInt x)), some (.int (Int32.ofInt 2))] [.int (Int32.ofInt 0)] (zN L X (zhi s) R G nc ns) Q
    refine zW.run 1 (pc' := 14) (ls' := [some (.ref 6), some (.int (Int32.ofInt x)), some (.int (Int32.ofInt 2))]) (st' := []) (σ' := (zN L X (zhi s) R G nc ns)) (fun n => rfl) ?_
    exfalso
    omega
set_option maxHeartbeats 4000000 in
theorem t_S_ofSquare_3 (S : zSR R) (V : zV g U F T B ph s) {x : Int} (p0 : 0 ≤ x ∧ x < g 2) (hQ0 : ∀ (v : Int), s 11 x.toNat = 1 ∧ v = s 12 x.toNat ∨ ¬ s 11 x.toNat = 1 ∧ v = 0 → Q (.inl (some (.int (Int32.ofInt v)))) (zN L X (zhi s) R G nc ns)) : zW ro 23 0 (zfst [.ref 6, .int (Int32.ofInt x), .int (Int32.ofInt 3)] 3) [] (zN L X (zhi s) R G nc ns) Q := by
  show zW ro 23 0 [some (.ref 6), some (.int (Int32.ofInt x)), some (.int (Int32.ofInt 3))] [] (zN L X (zhi s) R G nc ns) Q
  have f1 := zA_geo (zV_zA V)
  have hB0 := zV_B V
  refine zW.run 1 (pc' := 1) (ls' := [some (.ref 6), some (.int (Int32.ofInt x)), some (.int (Int32.ofInt 3))]) (st' := [.ref 6]) (σ' := (zN L X (zhi s) R G nc ns)) (fun n => rfl) ?_
  refine zW.getf (v := .ref 7) rfl rfl (zr_6_0 S) ?_
  refine zW.getf (v := .ref 8) rfl rfl (zr_7_0 S) ?_
  refine zW.run 1 (pc' := 8) (ls' := [some (.ref 6), some (.int (Int32.ofInt x)), some (.int (Int32.ofInt 3))]) (st' := [.int (Int32.ofInt x), .ref 8]) (σ' := (zN L X (zhi s) R G nc ns)) (fun n => rfl) ?_
  refine zW.callV rfl (by decide) rfl rfl rfl rfl rfl (Nat.le_of_ble_eq_true rfl) ?_
  refine t_Ground_isOn S (zV_zA V) (x := x) (by omega) (fun f2 f3 => ?_) (fun f4 => ?_)
  · skip
    show zW ro 23 11 [some (.ref 6), some (.int (Int32.ofInt x)), some (.int (Int32.ofInt 3))] [.int (Int32.ofInt 1)] (zN L X (zhi s) R G nc ns) Q
    refine zW.run 9 (pc' := 48) (ls' := [some (.ref 6), some (.int (Int32.ofInt x)), some (.int (Int32.ofInt 3))]) (st' := [.int (Int32.ofInt 3), .int (Int32.ofInt x), .ref 6]) (σ' := (zN L X (zhi s) R G nc ns)) (fun n => rfl) ?_
    refine zW.callV rfl (by decide) rfl rfl rfl rfl rfl (Nat.le_of_ble_eq_true rfl) ?_
    refine t_S_squareFact_3 S V (x := x) (by omega) (fun v_5 f6 => ?_)
    show zW ro 23 51 [some (.ref 6), some (.int (Int32.ofInt x)), some (.int (Int32.ofInt 3))] [.int (Int32.ofInt v_5)] (zN L X (zhi s) R G nc ns) Q
    have f7 := zV_sq V (k := x.toNat) (by omega)
    exact zW.jret rfl rfl (hQ0 v_5 (by omega))
  · skip
    show zW ro 23 11 [some (.ref 6), some (.int (Int32.ofInt x)), some (.int (Int32.ofInt 3))] [.int (Int32.ofInt 0)] (zN L X (zhi s) R G nc ns) Q
    refine zW.run 1 (pc' := 14) (ls' := [some (.ref 6), some (.int (Int32.ofInt x)), some (.int (Int32.ofInt 3))]) (st' := []) (σ' := (zN L X (zhi s) R G nc ns)) (fun n => rfl) ?_
    exfalso
    omega
set_option maxHeartbeats 4000000 in
theorem t_S_ofSquare_4 (S : zSR R) (V : zV g U F T B ph s) {x : Int} (p0 : 0 ≤ x ∧ x < g 2) (hQ0 : Q (.inl (some (.int (Int32.ofInt (s 13 x.toNat))))) (zN L X (zhi s) R G nc ns)) : zW ro 23 0 (zfst [.ref 6, .int (Int32.ofInt x), .int (Int32.ofInt 4)] 3) [] (zN L X (zhi s) R G nc ns) Q := by
  show zW ro 23 0 [some (.ref 6), some (.int (Int32.ofInt x)), some (.int (Int32.ofInt 4))] [] (zN L X (zhi s) R G nc ns) Q
  have f1 := zA_geo (zV_zA V)
  have hB0 := zV_B V
  refine zW.run 1 (pc' := 1) (ls' := [some (.ref 6), some (.int (Int32.ofInt x)), some (.int (Int32.ofInt 4))]) (st' := [.ref 6]) (σ' := (zN L X (zhi s) R G nc ns)) (fun n => rfl) ?_
  refine zW.getf (v := .ref 7) rfl rfl (zr_6_0 S) ?_
  refine zW.getf (v := .ref 8) rfl rfl (zr_7_0 S) ?_
  refine zW.run 1 (pc' := 8) (ls' := [some (.ref 6), some (.int (Int32.ofInt x)), some (.int (Int32.ofInt 4))]) (st' := [.int (Int32.ofInt x), .ref 8]) (σ' := (zN L X (zhi s) R G nc ns)) (fun n => rfl) ?_
  refine zW.callV rfl (by decide) rfl rfl rfl rfl rfl (Nat.le_of_ble_eq_true rfl) ?_
  refine t_Ground_isOn S (zV_zA V) (x := x) (by omega) (fun f2 f3 => ?_) (fun f4 => ?_)
  · skip
    show zW ro 23 11 [some (.ref 6), some (.int (Int32.ofInt x)), some (.int (Int32.ofInt 4))] [.int (Int32.ofInt 1)] (zN L X (zhi s) R G nc ns) Q
    refine zW.run 9 (pc' := 48) (ls' := [some (.ref 6), some (.int (Int32.ofInt x)), some (.int (Int32.ofInt 4))]) (st' := [.int (Int32.ofInt 4), .int (Int32.ofInt x), .ref 6]) (σ' := (zN L X (zhi s) R G nc ns)) (fun n => rfl) ?_
    refine zW.callV rfl (by decide) rfl rfl rfl rfl rfl (Nat.le_of_ble_eq_true rfl) ?_
    refine t_S_squareFact_4 S V (x := x) (by omega) ?_
    show zW ro 23 51 [some (.ref 6), some (.int (Int32.ofInt x)), some (.int (Int32.ofInt 4))] [.int (Int32.ofInt (s 13 x.toNat))] (zN L X (zhi s) R G nc ns) Q
    have f5 := zV_sq V (k := x.toNat) (by omega)
    exact zW.jret rfl rfl hQ0
  · skip
    show zW ro 23 11 [some (.ref 6), some (.int (Int32.ofInt x)), some (.int (Int32.ofInt 4))] [.int (Int32.ofInt 0)] (zN L X (zhi s) R G nc ns) Q
    refine zW.run 1 (pc' := 14) (ls' := [some (.ref 6), some (.int (Int32.ofInt x)), some (.int (Int32.ofInt 4))]) (st' := []) (σ' := (zN L X (zhi s) R G nc ns)) (fun n => rfl) ?_
    exfalso
    omega
set_option maxHeartbeats 4000000 in
theorem t_S_ofSquare_5 (S : zSR R) (V : zV g U F T B ph s) {x : Int} (p0 : 0 ≤ x ∧ x < g 2) (hQ0 : ∀ (v : Int), s 11 x.toNat = 1 ∧ v = 2 * s 9 x.toNat + 6 ∨ s 11 x.toNat = 3 ∧ v = 2 * s 9 x.toNat + 4 ∨ s 11 x.toNat = 6 ∧ v = 2 * s 9 x.toNat + 2 ∨ s 11 x.toNat = 4 ∧ v = 2 * s 9 x.toNat + 2 ∨ s 11 x.toNat = 2 ∧ v = 2 * s 9 x.toNat + -4 ∨ s 11 x.toNat = 7 ∧ v = 2 * s 9 x.toNat + -2 ∨ s 11 x.toNat = 0 ∧ v = 2 * s 9 x.toNat + 0 ∨ s 11 x.toNat = 5 ∧ v = 2 * s 9 x.toNat + 0 → Q (.inl (some (.int (Int32.ofInt v)))) (zN L X (zhi s) R G nc ns)) : zW ro 23 0 (zfst [.ref 6, .int (Int32.ofInt x), .int (Int32.ofInt 5)] 3) [] (zN L X (zhi s) R G nc ns) Q := by
  show zW ro 23 0 [some (.ref 6), some (.int (Int32.ofInt x)), some (.int (Int32.ofInt 5))] [] (zN L X (zhi s) R G nc ns) Q
  have f1 := zA_geo (zV_zA V)
  have hB0 := zV_B V
  refine zW.run 1 (pc' := 1) (ls' := [some (.ref 6), some (.int (Int32.ofInt x)), some (.int (Int32.ofInt 5))]) (st' := [.ref 6]) (σ' := (zN L X (zhi s) R G nc ns)) (fun n => rfl) ?_
  refine zW.getf (v := .ref 7) rfl rfl (zr_6_0 S) ?_
  refine zW.getf (v := .ref 8) rfl rfl (zr_7_0 S) ?_
  refine zW.run 1 (pc' := 8) (ls' := [some (.ref 6), some (.int (Int32.ofInt x)), some (.int (Int32.ofInt 5))]) (st' := [.int (Int32.ofInt x), .ref 8]) (σ' := (zN L X (zhi s) R G nc ns)) (fun n => rfl) ?_
  refine zW.callV rfl (by decide) rfl rfl rfl rfl rfl (Nat.le_of_ble_eq_true rfl) ?_
  refine t_Ground_isOn S (zV_zA V) (x := x) (by omega) (fun f2 f3 => ?_) (fun f4 => ?_)
  · skip
    show zW ro 23 11 [some (.ref 6), some (.int (Int32.ofInt x)), some (.int (Int32.ofInt 5))] [.int (Int32.ofInt 1)] (zN L X (zhi s) R G nc ns) Q
    refine zW.run 9 (pc' := 48) (ls' := [some (.ref 6), some (.int (Int32.ofInt x)), some (.int (Int32.ofInt 5))]) (st' := [.int (Int32.ofInt 5), .int (Int32.ofInt x), .ref 6]) (σ' := (zN L X (zhi s) R G nc ns)) (fun n => rfl) ?_
    refine zW.callV rfl (by decide) rfl rfl rfl rfl rfl (Nat.le_of_ble_eq_true rfl) ?_
    refine t_S_squareFact_5 S V (x := x) (by omega) (fun v_5 f6 => ?_)
    show zW ro 23 51 [some (.ref 6), some (.int (Int32.ofInt x)), some (.int (Int32.ofInt 5))] [.int (Int32.ofInt v_5)] (zN L X (zhi s) R G nc ns) Q
    have f7 := zV_sq V (k := x.toNat) (by omega)
    exact zW.jret rfl rfl (hQ0 v_5 (by omega))
  · skip
    show zW ro 23 11 [some (.ref 6), some (.int (Int32.ofInt x)), some (.int (Int32.ofInt 5))] [.int (Int32.ofInt 0)] (zN L X (zhi s) R G nc ns) Q
    refine zW.run 1 (pc' := 14) (ls' := [some (.ref 6), some (.int (Int32.ofInt x)), some (.int (Int32.ofInt 5))]) (st' := []) (σ' := (zN L X (zhi s) R G nc ns)) (fun n => rfl) ?_
    exfalso
    omega
set_option maxHeartbeats 4000000 in
theorem t_S_ofSquare_6 (S : zSR R) (V : zV g U F T B ph s) {x : Int} (p0 : 0 ≤ x ∧ x < g 2) (hQ0 : ∀ (t : Int) (v : Int), s 11 x.toNat = 1 ∧ t = 2 * s 9 x.toNat + 6 ∨ s 11 x.toNat = 3 ∧ t = 2 * s 9 x.toNat + 4 ∨ s 11 x.toNat = 6 ∧ t = 2 * s 9 x.toNat + 2 ∨ s 11 x.toNat = 4 ∧ t = 2 * s 9 x.toNat + 2 ∨ s 11 x.toNat = 2 ∧ t = 2 * s 9 x.toNat + -4 ∨ s 11 x.toNat = 7 ∧ t = 2 * s 9 x.toNat + -2 ∨ s 11 x.toNat = 0 ∧ t = 2 * s 9 x.toNat + 0 ∨ s 11 x.toNat = 5 ∧ t = 2 * s 9 x.toNat + 0 → s 11 x.toNat = 5 ∧ v = t - 2 ∨ ¬ s 11 x.toNat = 5 ∧ v = t + 1 → Q (.inl (some (.int (Int32.ofInt v)))) (zN L X (zhi s) R G nc ns)) : zW ro 23 0 (zfst [.ref 6, .int (Int32.ofInt x), .int (Int32.ofInt 6)] 3) [] (zN L X (zhi s) R G nc ns) Q := by
  show zW ro 23 0 [some (.ref 6), some (.int (Int32.ofInt x)), some (.int (Int32.ofInt 6))] [] (zN L X (zhi s) R G nc ns) Q
  have f1 := zA_geo (zV_zA V)
  have hB0 := zV_B V
  refine zW.run 1 (pc' := 1) (ls' := [some (.ref 6), some (.int (Int32.ofInt x)), some (.int (Int32.ofInt 6))]) (st' := [.ref 6]) (σ' := (zN L X (zhi s) R G nc ns)) (fun n => rfl) ?_
  refine zW.getf (v := .ref 7) rfl rfl (zr_6_0 S) ?_
  refine zW.getf (v := .ref 8) rfl rfl (zr_7_0 S) ?_
  refine zW.run 1 (pc' := 8) (ls' := [some (.ref 6), some (.int (Int32.ofInt x)), some (.int (Int32.ofInt 6))]) (st' := [.int (Int32.ofInt x), .ref 8]) (σ' := (zN L X (zhi s) R G nc ns)) (fun n => rfl) ?_
  refine zW.callV rfl (by decide) rfl rfl rfl rfl rfl (Nat.le_of_ble_eq_true rfl) ?_
  refine t_Ground_isOn S (zV_zA V) (x := x) (by omega) (fun f2 f3 => ?_) (fun f4 => ?_)
  · skip
    show zW ro 23 11 [some (.ref 6), some (.int (Int32.ofInt x)), some (.int (Int32.ofInt 6))] [.int (Int32.ofInt 1)] (zN L X (zhi s) R G nc ns) Q
    refine zW.run 9 (pc' := 48) (ls' := [some (.ref 6), some (.int (Int32.ofInt x)), some (.int (Int32.ofInt 6))]) (st' := [.int (Int32.ofInt 6), .int (Int32.ofInt x), .ref 6]) (σ' := (zN L X (zhi s) R G nc ns)) (fun n => rfl) ?_
    refine zW.callV rfl (by decide) rfl rfl rfl rfl rfl (Nat.le_of_ble_eq_true rfl) ?_
    refine t_S_squareFact_6 S V (x := x) (by omega) (fun t_5 v_6 f7 f8 => ?_)
    show zW ro 23 51 [some (.ref 6), some (.int (Int32.ofInt x)), some (.int (Int32.ofInt 6))] [.int (Int32.ofInt v_6)] (zN L X (zhi s) R G nc ns) Q
    have f9 := zV_sq V (k := x.toNat) (by omega)
    exact zW.jret rfl rfl (hQ0 t_5 v_6 (by omega) (by omega))
  · skip
    show zW ro 23 11 [some (.ref 6), some (.int (Int32.ofInt x)), some (.int (Int32.ofInt 6))] [.int (Int32.ofInt 0)] (zN L X (zhi s) R G nc ns) Q
    refine zW.run 1 (pc' := 14) (ls' := [some (.ref 6), some (.int (Int32.ofInt x)), some (.int (Int32.ofInt 6))]) (st' := []) (σ' := (zN L X (zhi s) R G nc ns)) (fun n => rfl) ?_
    exfalso
    omega
set_option maxHeartbeats 4000000 in
theorem t_S_ofSquare_7 (S : zSR R) (V : zV g U F T B ph s) {x : Int} (p0 : 0 ≤ x ∧ x < g 2) (hQ0 : ∀ (v : Int), (s 11 x.toNat = 1 ∨ s 11 x.toNat = 3 ∨ s 11 x.toNat = 4 ∨ x = g 3) ∧ v = 1 ∨ ¬ (s 11 x.toNat = 1 ∨ s 11 x.toNat = 3 ∨ s 11 x.toNat = 4 ∨ x = g 3) ∧ (s 11 x.toNat = 5 ∨ x = 0) ∧ v = 0 ∨ ¬ (s 11 x.toNat = 1 ∨ s 11 x.toNat = 3 ∨ s 11 x.toNat = 4 ∨ x = g 3) ∧ ¬ (s 11 x.toNat = 5 ∨ x = 0) ∧ v = -1 → Q (.inl (some (.int (Int32.ofInt v)))) (zN L X (zhi s) R G nc ns)) : zW ro 23 0 (zfst [.ref 6, .int (Int32.ofInt x), .int (Int32.ofInt 7)] 3) [] (zN L X (zhi s) R G nc ns) Q := by
  show zW ro 23 0 [some (.ref 6), some (.int (Int32.ofInt x)), some (.int (Int32.ofInt 7))] [] (zN L X (zhi s) R G nc ns) Q
  have f1 := zA_geo (zV_zA V)
  have hB0 := zV_B V
  refine zW.run 1 (pc' := 1) (ls' := [some (.ref 6), some (.int (Int32.ofInt x)), some (.int (Int32.ofInt 7))]) (st' := [.ref 6]) (σ' := (zN L X (zhi s) R G nc ns)) (fun n => rfl) ?_
  refine zW.getf (v := .ref 7) rfl rfl (zr_6_0 S) ?_
  refine zW.getf (v := .ref 8) rfl rfl (zr_7_0 S) ?_
  refine zW.run 1 (pc' := 8) (ls' := [some (.ref 6), some (.int (Int32.ofInt x)), some (.int (Int32.ofInt 7))]) (st' := [.int (Int32.ofInt x), .ref 8]) (σ' := (zN L X (zhi s) R G nc ns)) (fun n => rfl) ?_
  refine zW.callV rfl (by decide) rfl rfl rfl rfl rfl (Nat.le_of_ble_eq_true rfl) ?_
  refine t_Ground_isOn S (zV_zA V) (x := x) (by omega) (fun f2 f3 => ?_) (fun f4 => ?_)
  · skip
    show zW ro 23 11 [some (.ref 6), some (.int (Int32.ofInt x)), some (.int (Int32.ofInt 7))] [.int (Int32.ofInt 1)] (zN L X (zhi s) R G nc ns) Q
    refine zW.run 9 (pc' := 48) (ls' := [some (.ref 6), some (.int (Int32.ofInt x)), some (.int (Int32.ofInt 7))]) (st' := [.int (Int32.ofInt 7), .int (Int32.ofInt x), .ref 6]) (σ' := (zN L X (zhi s) R G nc ns)) (fun n => rfl) ?_
    refine zW.callV rfl (by decide) rfl rfl rfl rfl rfl (Nat.le_of_ble_eq_true rfl) ?_
    refine t_S_squareFact_7 S V (x := x) (by omega) (fun v_5 f6 => ?_)
    show zW ro 23 51 [some (.ref 6), some (.int (Int32.ofInt x)), some (.int (Int32.ofInt 7))] [.int (Int32.ofInt v_5)] (zN L X (zhi s) R G nc ns) Q
    have f7 := zV_sq V (k := x.toNat) (by omega)
    exact zW.jret rfl rfl (hQ0 v_5 (by omega))
  · skip
    show zW ro 23 11 [some (.ref 6), some (.int (Int32.ofInt x)), some (.int (Int32.ofInt 7))] [.int (Int32.ofInt 0)] (zN L X (zhi s) R G nc ns) Q
    refine zW.run 1 (pc' := 14) (ls' := [some (.ref 6), some (.int (Int32.ofInt x)), some (.int (Int32.ofInt 7))]) (st' := []) (σ' := (zN L X (zhi s) R G nc ns)) (fun n => rfl) ?_
    exfalso
    omega
set_option maxHeartbeats 4000000 in
theorem t_S_ofSquare_8 (S : zSR R) (V : zV g U F T B ph s) {x : Int} (p0 : 0 ≤ x ∧ x < g 2) (hQ0 : ∀ (v : Int), 0 ≤ v ∧ v ≤ 2400 → v = zma s 0 x 12 → Q (.inl (some (.int (Int32.ofInt v)))) (zN L X (zhi s) R G nc ns)) : zW ro 23 0 (zfst [.ref 6, .int (Int32.ofInt x), .int (Int32.ofInt 8)] 3) [] (zN L X (zhi s) R G nc ns) Q := by
  show zW ro 23 0 [some (.ref 6), some (.int (Int32.ofInt x)), some (.int (Int32.ofInt 8))] [] (zN L X (zhi s) R G nc ns) Q
  have f1 := zA_geo (zV_zA V)
  have hB0 := zV_B V
  refine zW.run 1 (pc' := 1) (ls' := [some (.ref 6), some (.int (Int32.ofInt x)), some (.int (Int32.ofInt 8))]) (st' := [.ref 6]) (σ' := (zN L X (zhi s) R G nc ns)) (fun n => rfl) ?_
  refine zW.getf (v := .ref 7) rfl rfl (zr_6_0 S) ?_
  refine zW.getf (v := .ref 8) rfl rfl (zr_7_0 S) ?_
  refine zW.run 1 (pc' := 8) (ls' := [some (.ref 6), some (.int (Int32.ofInt x)), some (.int (Int32.ofInt 8))]) (st' := [.int (Int32.ofInt x), .ref 8]) (σ' := (zN L X (zhi s) R G nc ns)) (fun n => rfl) ?_
  refine zW.callV rfl (by decide) rfl rfl rfl rfl rfl (Nat.le_of_ble_eq_true rfl) ?_
  refine t_Ground_isOn S (zV_zA V) (x := x) (by omega) (fun f2 f3 => ?_) (fun f4 => ?_)
  · skip
    show zW ro 23 11 [some (.ref 6), some (.int (Int32.ofInt x)), some (.int (Int32.ofInt 8))] [.int (Int32.ofInt 1)] (zN L X (zhi s) R G nc ns) Q
    refine zW.run 9 (pc' := 48) (ls' := [some (.ref 6), some (.int (Int32.ofInt x)), some (.int (Int32.ofInt 8))]) (st' := [.int (Int32.ofInt 8), .int (Int32.ofInt x), .ref 6]) (σ' := (zN L X (zhi s) R G nc ns)) (fun n => rfl) ?_
    refine zW.callV rfl (by decide) rfl rfl rfl rfl rfl (Nat.le_of_ble_eq_true rfl) ?_
    refine t_S_squareFact_8 S V (x := x) (by omega) (fun v_5 f6 f7 => ?_)
    show zW ro 23 51 [some (.ref 6), some (.int (Int32.ofInt x)), some (.int (Int32.ofInt 8))] [.int (Int32.ofInt v_5)] (zN L X (zhi s) R G nc ns) Q
    exact zW.jret rfl rfl (hQ0 v_5 (by omega) (by omega))
  · skip
    show zW ro 23 11 [some (.ref 6), some (.int (Int32.ofInt x)), some (.int (Int32.ofInt 8))] [.int (Int32.ofInt 0)] (zN L X (zhi s) R G nc ns) Q
    refine zW.run 1 (pc' := 14) (ls' := [some (.ref 6), some (.int (Int32.ofInt x)), some (.int (Int32.ofInt 8))]) (st' := []) (σ' := (zN L X (zhi s) R G nc ns)) (fun n => rfl) ?_
    exfalso
    omega
set_option maxHeartbeats 4000000 in
theorem t_S_ofSquare_9 (S : zSR R) (V : zV g U F T B ph s) {x : Int} (p0 : 0 ≤ x ∧ x < g 2) (hQ0 : ∀ (v : Int), 0 ≤ v ∧ v ≤ 2400 → v = zma s 1 x 12 → Q (.inl (some (.int (Int32.ofInt v)))) (zN L X (zhi s) R G nc ns)) : zW ro 23 0 (zfst [.ref 6, .int (Int32.ofInt x), .int (Int32.ofInt 9)] 3) [] (zN L X (zhi s) R G nc ns) Q := by
  show zW ro 23 0 [some (.ref 6), some (.int (Int32.ofInt x)), some (.int (Int32.ofInt 9))] [] (zN L X (zhi s) R G nc ns) Q
  have f1 := zA_geo (zV_zA V)
  have hB0 := zV_B V
  refine zW.run 1 (pc' := 1) (ls' := [some (.ref 6), some (.int (Int32.ofInt x)), some (.int (Int32.ofInt 9))]) (st' := [.ref 6]) (σ' := (zN L X (zhi s) R G nc ns)) (fun n => rfl) ?_
  refine zW.getf (v := .ref 7) rfl rfl (zr_6_0 S) ?_
  refine zW.getf (v := .ref 8) rfl rfl (zr_7_0 S) ?_
  refine zW.run 1 (pc' := 8) (ls' := [some (.ref 6), some (.int (Int32.ofInt x)), some (.int (Int32.ofInt 9))]) (st' := [.int (Int32.ofInt x), .ref 8]) (σ' := (zN L X (zhi s) R G nc ns)) (fun n => rfl) ?_
  refine zW.callV rfl (by decide) rfl rfl rfl rfl rfl (Nat.le_of_ble_eq_true rfl) ?_
  refine t_Ground_isOn S (zV_zA V) (x := x) (by omega) (fun f2 f3 => ?_) (fun f4 => ?_)
  · skip
    show zW ro 23 11 [some (.ref 6), some (.int (Int32.ofInt x)), some (.int (Int32.ofInt 9))] [.int (Int32.ofInt 1)] (zN L X (zhi s) R G nc ns) Q
    refine zW.run 9 (pc' := 48) (ls' := [some (.ref 6), some (.int (Int32.ofInt x)), some (.int (Int32.ofInt 9))]) (st' := [.int (Int32.ofInt 9), .int (Int32.ofInt x), .ref 6]) (σ' := (zN L X (zhi s) R G nc ns)) (fun n => rfl) ?_
    refine zW.callV rfl (by decide) rfl rfl rfl rfl rfl (Nat.le_of_ble_eq_true rfl) ?_
    refine t_S_squareFact_9 S V (x := x) (by omega) (fun v_5 f6 f7 => ?_)
    show zW ro 23 51 [some (.ref 6), some (.int (Int32.ofInt x)), some (.int (Int32.ofInt 9))] [.int (Int32.ofInt v_5)] (zN L X (zhi s) R G nc ns) Q
    exact zW.jret rfl rfl (hQ0 v_5 (by omega) (by omega))
  · skip
    show zW ro 23 11 [some (.ref 6), some (.int (Int32.ofInt x)), some (.int (Int32.ofInt 9))] [.int (Int32.ofInt 0)] (zN L X (zhi s) R G nc ns) Q
    refine zW.run 1 (pc' := 14) (ls' := [some (.ref 6), some (.int (Int32.ofInt x)), some (.int (Int32.ofInt 9))]) (st' := []) (σ' := (zN L X (zhi s) R G nc ns)) (fun n => rfl) ?_
    exfalso
    omega
set_option maxHeartbeats 4000000 in
theorem t_S_ofGun_1 (S : zSR R) (V : zV g U F T B ph s) {i : Nat} (p0 : i < 6) (hQ0 : Q (.inl (some (.int (Int32.ofInt (s (26 + i) 1))))) (zN L X (zhi s) R G nc ns)) : zW ro 19 0 (zfst [.ref 6, .int (Int32.ofInt (i : Int)), .int (Int32.ofInt 1)] 4) [] (zN L X (zhi s) R G nc ns) Q := by
  show zW ro 19 0 [some (.ref 6), some (.int (Int32.ofInt (i : Int))), some (.int (Int32.ofInt 1)), none] [] (zN L X (zhi s) R G nc ns) Q
  have f1 := zA_geo (zV_zA V)
  have hB0 := zV_B V
  refine zW.run 1 (pc' := 1) (ls' := [some (.ref 6), some (.int (Int32.ofInt (i : Int))), some (.int (Int32.ofInt 1)), none]) (st' := [.ref 6]) (σ' := (zN L X (zhi s) R G nc ns)) (fun n => rfl) ?_
  refine zW.getf (v := .ref 7) rfl rfl (zr_6_0 S) ?_
  refine zW.run 1 (pc' := 5) (ls' := [some (.ref 6), some (.int (Int32.ofInt (i : Int))), some (.int (Int32.ofInt 1)), none]) (st' := [.int (Int32.ofInt (i : Int)), .ref 7]) (σ' := (zN L X (zhi s) R G nc ns)) (fun n => rfl) ?_
  refine zW.callV rfl (by decide) rfl rfl rfl rfl rfl (Nat.le_of_ble_eq_true rfl) ?_
  refine t_Siege_gunAt S V (i := i) (by omega) ?_
  show zW ro 19 8 [some (.ref 6), some (.int (Int32.ofInt (i : Int))), some (.int (Int32.ofInt 1)), none] [.ref (26 + i)] (zN L X (zhi s) R G nc ns) Q
  refine zW.run 11 (pc' := 47) (ls' := [some (.ref 6), some (.int (Int32.ofInt (i : Int))), some (.int (Int32.ofInt 1)), some (.ref (26 + i))]) (st' := [.int (Int32.ofInt 1), .ref (26 + i), .ref 6]) (σ' := (zN L X (zhi s) R G nc ns)) (fun n => rfl) ?_
  refine zW.callV rfl (by decide) rfl rfl rfl rfl rfl (Nat.le_of_ble_eq_true rfl) ?_
  refine t_S_gunFact_1 S V (i := i) (by omega) ?_
  show zW ro 19 50 [some (.ref 6), some (.int (Int32.ofInt (i : Int))), some (.int (Int32.ofInt 1)), some (.ref (26 + i))] [.int (Int32.ofInt (s (26 + i) 1))] (zN L X (zhi s) R G nc ns) Q
  exact zW.jret rfl rfl hQ0
set_option maxHeartbeats 4000000 in
theorem t_S_ofGun_3 (S : zSR R) (V : zV g U F T B ph s) {i : Nat} (p0 : i < 6) (hQ0 : Q (.inl (some (.int (Int32.ofInt (s (26 + i) 3))))) (zN L X (zhi s) R G nc ns)) : zW ro 19 0 (zfst [.ref 6, .int (Int32.ofInt (i : Int)), .int (Int32.ofInt 3)] 4) [] (zN L X (zhi s) R G nc ns) Q := by
  show zW ro 19 0 [some (.ref 6), some (.int (Int32.ofInt (i : Int))), some (.int (Int32.ofInt 3)), none] [] (zN L X (zhi s) R G nc ns) Q
  have f1 := zA_geo (zV_zA V)
  have hB0 := zV_B V
  refine zW.run 1 (pc' := 1) (ls' := [some (.ref 6), some (.int (Int32.ofInt (i : Int))), some (.int (Int32.ofInt 3)), none]) (st' := [.ref 6]) (σ' := (zN L X (zhi s) R G nc ns)) (fun n => rfl) ?_
  refine zW.getf (v := .ref 7) rfl rfl (zr_6_0 S) ?_
  refine zW.run 1 (pc' := 5) (ls' := [some (.ref 6), some (.int (Int32.ofInt (i : Int))), some (.int (Int32.ofInt 3)), none]) (st' := [.int (Int32.ofInt (i : Int)), .ref 7]) (σ' := (zN L X (zhi s) R G nc ns)) (fun n => rfl) ?_
  refine zW.callV rfl (by decide) rfl rfl rfl rfl rfl (Nat.le_of_ble_eq_true rfl) ?_
  refine t_Siege_gunAt S V (i := i) (by omega) ?_
  show zW ro 19 8 [some (.ref 6), some (.int (Int32.ofInt (i : Int))), some (.int (Int32.ofInt 3)), none] [.ref (26 + i)] (zN L X (zhi s) R G nc ns) Q
  refine zW.run 11 (pc' := 47) (ls' := [some (.ref 6), some (.int (Int32.ofInt (i : Int))), some (.int (Int32.ofInt 3)), some (.ref (26 + i))]) (st' := [.int (Int32.ofInt 3), .ref (26 + i), .ref 6]) (σ' := (zN L X (zhi s) R G nc ns)) (fun n => rfl) ?_
  refine zW.callV rfl (by decide) rfl rfl rfl rfl rfl (Nat.le_of_ble_eq_true rfl) ?_
  refine t_S_gunFact_3 S V (i := i) (by omega) ?_
  show zW ro 19 50 [some (.ref 6), some (.int (Int32.ofInt (i : Int))), some (.int (Int32.ofInt 3)), some (.ref (26 + i))] [.int (Int32.ofInt (s (26 + i) 3))] (zN L X (zhi s) R G nc ns) Q
  exact zW.jret rfl rfl hQ0
set_option maxHeartbeats 4000000 in
theorem t_S_ofGun_4 (S : zSR R) (V : zV g U F T B ph s) {i : Nat} (p0 : i < 6) (hQ0 : Q (.inl (some (.int (Int32.ofInt (s (26 + i) 4))))) (zN L X (zhi s) R G nc ns)) : zW ro 19 0 (zfst [.ref 6, .int (Int32.ofInt (i : Int)), .int (Int32.ofInt 4)] 4) [] (zN L X (zhi s) R G nc ns) Q := by
  show zW ro 19 0 [some (.ref 6), some (.int (Int32.ofInt (i : Int))), some (.int (Int32.ofInt 4)), none] [] (zN L X (zhi s) R G nc ns) Q
  have f1 := zA_geo (zV_zA V)
  have hB0 := zV_B V
  refine zW.run 1 (pc' := 1) (ls' := [some (.ref 6), some (.int (Int32.ofInt (i : Int))), some (.int (Int32.ofInt 4)), none]) (st' := [.ref 6]) (σ' := (zN L X (zhi s) R G nc ns)) (fun n => rfl) ?_
  refine zW.getf (v := .ref 7) rfl rfl (zr_6_0 S) ?_
  refine zW.run 1 (pc' := 5) (ls' := [some (.ref 6), some (.int (Int32.ofInt (i : Int))), some (.int (Int32.ofInt 4)), none]) (st' := [.int (Int32.ofInt (i : Int)), .ref 7]) (σ' := (zN L X (zhi s) R G nc ns)) (fun n => rfl) ?_
  refine zW.callV rfl (by decide) rfl rfl rfl rfl rfl (Nat.le_of_ble_eq_true rfl) ?_
  refine t_Siege_gunAt S V (i := i) (by omega) ?_
  show zW ro 19 8 [some (.ref 6), some (.int (Int32.ofInt (i : Int))), some (.int (Int32.ofInt 4)), none] [.ref (26 + i)] (zN L X (zhi s) R G nc ns) Q
  refine zW.run 11 (pc' := 47) (ls' := [some (.ref 6), some (.int (Int32.ofInt (i : Int))), some (.int (Int32.ofInt 4)), some (.ref (26 + i))]) (st' := [.int (Int32.ofInt 4), .ref (26 + i), .ref 6]) (σ' := (zN L X (zhi s) R G nc ns)) (fun n => rfl) ?_
  refine zW.callV rfl (by decide) rfl rfl rfl rfl rfl (Nat.le_of_ble_eq_true rfl) ?_
  refine t_S_gunFact_4 S V (i := i) (by omega) ?_
  show zW ro 19 50 [some (.ref 6), some (.int (Int32.ofInt (i : Int))), some (.int (Int32.ofInt 4)), some (.ref (26 + i))] [.int (Int32.ofInt (s (26 + i) 4))] (zN L X (zhi s) R G nc ns) Q
  exact zW.jret rfl rfl hQ0
set_option maxHeartbeats 4000000 in
theorem t_S_ofGun_5 (S : zSR R) (V : zV g U F T B ph s) {i : Nat} (p0 : i < 6) (hQ0 : Q (.inl (some (.int (Int32.ofInt (s (26 + i) 5))))) (zN L X (zhi s) R G nc ns)) : zW ro 19 0 (zfst [.ref 6, .int (Int32.ofInt (i : Int)), .int (Int32.ofInt 5)] 4) [] (zN L X (zhi s) R G nc ns) Q := by
  show zW ro 19 0 [some (.ref 6), some (.int (Int32.ofInt (i : Int))), some (.int (Int32.ofInt 5)), none] [] (zN L X (zhi s) R G nc ns) Q
  have f1 := zA_geo (zV_zA V)
  have hB0 := zV_B V
  refine zW.run 1 (pc' := 1) (ls' := [some (.ref 6), some (.int (Int32.ofInt (i : Int))), some (.int (Int32.ofInt 5)), none]) (st' := [.ref 6]) (σ' := (zN L X (zhi s) R G nc ns)) (fun n => rfl) ?_
  refine zW.getf (v := .ref 7) rfl rfl (zr_6_0 S) ?_
  refine zW.run 1 (pc' := 5) (ls' := [some (.ref 6), some (.int (Int32.ofInt (i : Int))), some (.int (Int32.ofInt 5)), none]) (st' := [.int (Int32.ofInt (i : Int)), .ref 7]) (σ' := (zN L X (zhi s) R G nc ns)) (fun n => rfl) ?_
  refine zW.callV rfl (by decide) rfl rfl rfl rfl rfl (Nat.le_of_ble_eq_true rfl) ?_
  refine t_Siege_gunAt S V (i := i) (by omega) ?_
  show zW ro 19 8 [some (.ref 6), some (.int (Int32.ofInt (i : Int))), some (.int (Int32.ofInt 5)), none] [.ref (26 + i)] (zN L X (zhi s) R G nc ns) Q
  refine zW.run 11 (pc' := 47) (ls' := [some (.ref 6), some (.int (Int32.ofInt (i : Int))), some (.int (Int32.ofInt 5)), some (.ref (26 + i))]) (st' := [.int (Int32.ofInt 5), .ref (26 + i), .ref 6]) (σ' := (zN L X (zhi s) R G nc ns)) (fun n => rfl) ?_
  refine zW.callV rfl (by decide) rfl rfl rfl rfl rfl (Nat.le_of_ble_eq_true rfl) ?_
  refine t_S_gunFact_5 S V (i := i) (by omega) ?_
  show zW ro 19 50 [some (.ref 6), some (.int (Int32.ofInt (i : Int))), some (.int (Int32.ofInt 5)), some (.ref (26 + i))] [.int (Int32.ofInt (s (26 + i) 5))] (zN L X (zhi s) R G nc ns) Q
  exact zW.jret rfl rfl hQ0
set_option maxHeartbeats 4000000 in
theorem t_S_ofGun_6 (S : zSR R) (V : zV g U F T B ph s) {i : Nat} (p0 : i < 6) (hQ0 : Q (.inl (some (.int (Int32.ofInt (s (26 + i) 6))))) (zN L X (zhi s) R G nc ns)) : zW ro 19 0 (zfst [.ref 6, .int (Int32.ofInt (i : Int)), .int (Int32.ofInt 6)] 4) [] (zN L X (zhi s) R G nc ns) Q := by
  show zW ro 19 0 [some (.ref 6), some (.int (Int32.ofInt (i : Int))), some (.int (Int32.ofInt 6)), none] [] (zN L X (zhi s) R G nc ns) Q
  have f1 := zA_geo (zV_zA V)
  have hB0 := zV_B V
  refine zW.run 1 (pc' := 1) (ls' := [some (.ref 6), some (.int (Int32.ofInt (i : Int))), some (.int (Int32.ofInt 6)), none]) (st' := [.ref 6]) (σ' := (zN L X (zhi s) R G nc ns)) (fun n => rfl) ?_
  refine zW.getf (v := .ref 7) rfl rfl (zr_6_0 S) ?_
  refine zW.run 1 (pc' := 5) (ls' := [some (.ref 6), some (.int (Int32.ofInt (i : Int))), some (.int (Int32.ofInt 6)), none]) (st' := [.int (Int32.ofInt (i : Int)), .ref 7]) (σ' := (zN L X (zhi s) R G nc ns)) (fun n => rfl) ?_
  refine zW.callV rfl (by decide) rfl rfl rfl rfl rfl (Nat.le_of_ble_eq_true rfl) ?_
  refine t_Siege_gunAt S V (i := i) (by omega) ?_
  show zW ro 19 8 [some (.ref 6), some (.int (Int32.ofInt (i : Int))), some (.int (Int32.ofInt 6)), none] [.ref (26 + i)] (zN L X (zhi s) R G nc ns) Q
  refine zW.run 11 (pc' := 47) (ls' := [some (.ref 6), some (.int (Int32.ofInt (i : Int))), some (.int (Int32.ofInt 6)), some (.ref (26 + i))]) (st' := [.int (Int32.ofInt 6), .ref (26 + i), .ref 6]) (σ' := (zN L X (zhi s) R G nc ns)) (fun n => rfl) ?_
  refine zW.callV rfl (by decide) rfl rfl rfl rfl rfl (Nat.le_of_ble_eq_true rfl) ?_
  refine t_S_gunFact_6 S V (i := i) (by omega) ?_
  show zW ro 19 50 [some (.ref 6), some (.int (Int32.ofInt (i : Int))), some (.int (Int32.ofInt 6)), some (.ref (26 + i))] [.int (Int32.ofInt (s (26 + i) 6))] (zN L X (zhi s) R G nc ns) Q
  exact zW.jret rfl rfl hQ0
set_option maxHeartbeats 4000000 in
theorem t_S_ofGun_7 (S : zSR R) (V : zV g U F T B ph s) {i : Nat} (p0 : i < 6) (hQ0 : ∀ (v : Int), 0 ≤ v ∧ v ≤ 4 - s (26 + i) 3 → (0 < v → s (26 + i) 5 = 0 ∧ 0 ≤ s (26 + i) 6 ∧ ¬ s (26 + i) 0 = -1) → (s (26 + i) 0 = 1 → v * s (26 + i) 2 ≤ s 22 0) → (¬ s (26 + i) 0 = 1 → v * s (26 + i) 2 ≤ s 21 0) → Q (.inl (some (.int (Int32.ofInt v)))) (zN L X (zhi s) R G nc ns)) : zW ro 19 0 (zfst [.ref 6, .int (Int32.ofInt (i : Int)), .int (Int32.ofInt 7)] 4) [] (zN L X (zhi s) R G nc ns) Q := by
  show zW ro 19 0 [some (.ref 6), some (.int (Int32.ofInt (i : Int))), some (.int (Int32.ofInt 7)), none] [] (zN L X (zhi s) R G nc ns) Q
  have f1 := zA_geo (zV_zA V)
  have hB0 := zV_B V
  refine zW.run 1 (pc' := 1) (ls' := [some (.ref 6), some (.int (Int32.ofInt (i : Int))), some (.int (Int32.ofInt 7)), none]) (st' := [.ref 6]) (σ' := (zN L X (zhi s) R G nc ns)) (fun n => rfl) ?_
  refine zW.getf (v := .ref 7) rfl rfl (zr_6_0 S) ?_
  refine zW.run 1 (pc' := 5) (ls' := [some (.ref 6), some (.int (Int32.ofInt (i : Int))), some (.int (Int32.ofInt 7)), none]) (st' := [.int (Int32.ofInt (i : Int)), .ref 7]) (σ' := (zN L X (zhi s) R G nc ns)) (fun n => rfl) ?_
  refine zW.callV rfl (by decide) rfl rfl rfl rfl rfl (Nat.le_of_ble_eq_true rfl) ?_
  refine t_Siege_gunAt S V (i := i) (by omega) ?_
  show zW ro 19 8 [some (.ref 6), some (.int (Int32.ofInt (i : Int))), some (.int (Int32.ofInt 7)), none] [.ref (26 + i)] (zN L X (zhi s) R G nc ns) Q
  refine zW.run 11 (pc' := 47) (ls' := [some (.ref 6), some (.int (Int32.ofInt (i : Int))), some (.int (Int32.ofInt 7)), some (.ref (26 + i))]) (st' := [.int (Int32.ofInt 7), .ref (26 + i), .ref 6]) (σ' := (zN L X (zhi s) R G nc ns)) (fun n => rfl) ?_
  refine zW.callV rfl (by decide) rfl rfl rfl rfl rfl (Nat.le_of_ble_eq_true rfl) ?_
  refine t_S_gunFact_7 S V (i := i) (by omega) (fun v_2 f3 f4 f5 f6 => ?_)
  show zW ro 19 50 [some (.ref 6), some (.int (Int32.ofInt (i : Int))), some (.int (Int32.ofInt 7)), some (.ref (26 + i))] [.int (Int32.ofInt v_2)] (zN L X (zhi s) R G nc ns) Q
  exact zW.jret rfl rfl (hQ0 v_2 (by omega) (by omega) (by omega) (by omega))
set_option maxHeartbeats 4000000 in
theorem t_S_ofCompany_0 (S : zSR R) (V : zV g U F T B ph s) {i : Nat} (p0 : i < 8) (hQ0 : Q (.inl (some (.int (Int32.ofInt (s (42 + i) 0))))) (zN L X (zhi s) R G nc ns)) : zW ro 18 0 (zfst [.ref 6, .int (Int32.ofInt (i : Int)), .int (Int32.ofInt 0)] 4) [] (zN L X (zhi s) R G nc ns) Q := by
  show zW ro 18 0 [some (.ref 6), some (.int (Int32.ofInt (i : Int))), some (.int (Int32.ofInt 0)), none] [] (zN L X (zhi s) R G nc ns) Q
  have f1 := zA_geo (zV_zA V)
  have hB0 := zV_B V
  refine zW.run 1 (pc' := 1) (ls' := [some (.ref 6), some (.int (Int32.ofInt (i : Int))), some (.int (Int32.ofInt 0)), none]) (st' := [.ref 6]) (σ' := (zN L X (zhi s) R G nc ns)) (fun n => rfl) ?_
  refine zW.getf (v := .ref 7) rfl rfl (zr_6_0 S) ?_
  refine zW.run 1 (pc' := 5) (ls' := [some (.ref 6), some (.int (Int32.ofInt (i : Int))), some (.int (Int32.ofInt 0)), none]) (st' := [.int (Int32.ofInt (i : Int)), .ref 7]) (σ' := (zN L X (zhi s) R G nc ns)) (fun n => rfl) ?_
  refine zW.callV rfl (by decide) rfl rfl rfl rfl rfl (Nat.le_of_ble_eq_true rfl) ?_
  refine t_Siege_companyAt S V (i := i) (by omega) ?_
  show zW ro 18 8 [some (.ref 6), some (.int (Int32.ofInt (i : Int))), some (.int (Int32.ofInt 0)), none] [.ref (42 + i)] (zN L X (zhi s) R G nc ns) Q
  refine zW.run 11 (pc' := 47) (ls' := [some (.ref 6), some (.int (Int32.ofInt (i : Int))), some (.int (Int32.ofInt 0)), some (.ref (42 + i))]) (st' := [.int (Int32.ofInt 0), .ref (42 + i), .ref 6]) (σ' := (zN L X (zhi s) R G nc ns)) (fun n => rfl) ?_
  refine zW.callV rfl (by decide) rfl rfl rfl rfl rfl (Nat.le_of_ble_eq_true rfl) ?_
  refine t_S_companyFact_0 S V (i := i) (by omega) ?_
  show zW ro 18 50 [some (.ref 6), some (.int (Int32.ofInt (i : Int))), some (.int (Int32.ofInt 0)), some (.ref (42 + i))] [.int (Int32.ofInt (s (42 + i) 0))] (zN L X (zhi s) R G nc ns) Q
  exact zW.jret rfl rfl hQ0
set_option maxHeartbeats 4000000 in
theorem t_S_ofCompany_1 (S : zSR R) (V : zV g U F T B ph s) {i : Nat} (p0 : i < 8) (hQ0 : Q (.inl (some (.int (Int32.ofInt (s (42 + i) 1))))) (zN L X (zhi s) R G nc ns)) : zW ro 18 0 (zfst [.ref 6, .int (Int32.ofInt (i : Int)), .int (Int32.ofInt 1)] 4) [] (zN L X (zhi s) R G nc ns) Q := by
  show zW ro 18 0 [some (.ref 6), some (.int (Int32.ofInt (i : Int))), some (.int (Int32.ofInt 1)), none] [] (zN L X (zhi s) R G nc ns) Q
  have f1 := zA_geo (zV_zA V)
  have hB0 := zV_B V
  refine zW.run 1 (pc' := 1) (ls' := [some (.ref 6), some (.int (Int32.ofInt (i : Int))), some (.int (Int32.ofInt 1)), none]) (st' := [.ref 6]) (σ' := (zN L X (zhi s) R G nc ns)) (fun n => rfl) ?_
  refine zW.getf (v := .ref 7) rfl rfl (zr_6_0 S) ?_
  refine zW.run 1 (pc' := 5) (ls' := [some (.ref 6), some (.int (Int32.ofInt (i : Int))), some (.int (Int32.ofInt 1)), none]) (st' := [.int (Int32.ofInt (i : Int)), .ref 7]) (σ' := (zN L X (zhi s) R G nc ns)) (fun n => rfl) ?_
  refine zW.callV rfl (by decide) rfl rfl rfl rfl rfl (Nat.le_of_ble_eq_true rfl) ?_
  refine t_Siege_companyAt S V (i := i) (by omega) ?_
  show zW ro 18 8 [some (.ref 6), some (.int (Int32.ofInt (i : Int))), some (.int (Int32.ofInt 1)), none] [.ref (42 + i)] (zN L X (zhi s) R G nc ns) Q
  refine zW.run 11 (pc' := 47) (ls' := [some (.ref 6), some (.int (Int32.ofInt (i : Int))), some (.int (Int32.ofInt 1)), some (.ref (42 + i))]) (st' := [.int (Int32.ofInt 1), .ref (42 + i), .ref 6]) (σ' := (zN L X (zhi s) R G nc ns)) (fun n => rfl) ?_
  refine zW.callV rfl (by decide) rfl rfl rfl rfl rfl (Nat.le_of_ble_eq_true rfl) ?_
  refine t_S_companyFact_1 S V (i := i) (by omega) ?_
  show zW ro 18 50 [some (.ref 6), some (.int (Int32.ofInt (i : Int))), some (.int (Int32.ofInt 1)), some (.ref (42 + i))] [.int (Int32.ofInt (s (42 + i) 1))] (zN L X (zhi s) R G nc ns) Q
  exact zW.jret rfl rfl hQ0
set_option maxHeartbeats 4000000 in
theorem t_S_ofCompany_2 (S : zSR R) (V : zV g U F T B ph s) {i : Nat} (p0 : i < 8) (hQ0 : Q (.inl (some (.int (Int32.ofInt (s (42 + i) 2))))) (zN L X (zhi s) R G nc ns)) : zW ro 18 0 (zfst [.ref 6, .int (Int32.ofInt (i : Int)), .int (Int32.ofInt 2)] 4) [] (zN L X (zhi s) R G nc ns) Q := by
  show zW ro 18 0 [some (.ref 6), some (.int (Int32.ofInt (i : Int))), some (.int (Int32.ofInt 2)), none] [] (zN L X (zhi s) R G nc ns) Q
  have f1 := zA_geo (zV_zA V)
  have hB0 := zV_B V
  refine zW.run 1 (pc' := 1) (ls' := [some (.ref 6), some (.int (Int32.ofInt (i : Int))), some (.int (Int32.ofInt 2)), none]) (st' := [.ref 6]) (σ' := (zN L X (zhi s) R G nc ns)) (fun n => rfl) ?_
  refine zW.getf (v := .ref 7) rfl rfl (zr_6_0 S) ?_
  refine zW.run 1 (pc' := 5) (ls' := [some (.ref 6), some (.int (Int32.ofInt (i : Int))), some (.int (Int32.ofInt 2)), none]) (st' := [.int (Int32.ofInt (i : Int)), .ref 7]) (σ' := (zN L X (zhi s) R G nc ns)) (fun n => rfl) ?_
  refine zW.callV rfl (by decide) rfl rfl rfl rfl rfl (Nat.le_of_ble_eq_true rfl) ?_
  refine t_Siege_companyAt S V (i := i) (by omega) ?_
  show zW ro 18 8 [some (.ref 6), some (.int (Int32.ofInt (i : Int))), some (.int (Int32.ofInt 2)), none] [.ref (42 + i)] (zN L X (zhi s) R G nc ns) Q
  refine zW.run 11 (pc' := 47) (ls' := [some (.ref 6), some (.int (Int32.ofInt (i : Int))), some (.int (Int32.ofInt 2)), some (.ref (42 + i))]) (st' := [.int (Int32.ofInt 2), .ref (42 + i), .ref 6]) (σ' := (zN L X (zhi s) R G nc ns)) (fun n => rfl) ?_
  refine zW.callV rfl (by decide) rfl rfl rfl rfl rfl (Nat.le_of_ble_eq_true rfl) ?_
  refine t_S_companyFact_2 S V (i := i) (by omega) ?_
  show zW ro 18 50 [some (.ref 6), some (.int (Int32.ofInt (i : Int))), some (.int (Int32.ofInt 2)), some (.ref (42 + i))] [.int (Int32.ofInt (s (42 + i) 2))] (zN L X (zhi s) R G nc ns) Q
  exact zW.jret rfl rfl hQ0
set_option maxHeartbeats 4000000 in
theorem t_S_ofCompany_3 (S : zSR R) (V : zV g U F T B ph s) {i : Nat} (p0 : i < 8) (hQ0 : Q (.inl (some (.int (Int32.ofInt (s (42 + i) 3))))) (zN L X (zhi s) R G nc ns)) : zW ro 18 0 (zfst [.ref 6, .int (Int32.ofInt (i : Int)), .int (Int32.ofInt 3)] 4) [] (zN L X (zhi s) R G nc ns) Q := by
  show zW ro 18 0 [some (.ref 6), some (.int (Int32.ofInt (i : Int))), some (.int (Int32.ofInt 3)), none] [] (zN L X (zhi s) R G nc ns) Q
  have f1 := zA_geo (zV_zA V)
  have hB0 := zV_B V
  refine zW.run 1 (pc' := 1) (ls' := [some (.ref 6), some (.int (Int32.ofInt (i : Int))), some (.int (Int32.ofInt 3)), none]) (st' := [.ref 6]) (σ' := (zN L X (zhi s) R G nc ns)) (fun n => rfl) ?_
  refine zW.getf (v := .ref 7) rfl rfl (zr_6_0 S) ?_
  refine zW.run 1 (pc' := 5) (ls' := [some (.ref 6), some (.int (Int32.ofInt (i : Int))), some (.int (Int32.ofInt 3)), none]) (st' := [.int (Int32.ofInt (i : Int)), .ref 7]) (σ' := (zN L X (zhi s) R G nc ns)) (fun n => rfl) ?_
  refine zW.callV rfl (by decide) rfl rfl rfl rfl rfl (Nat.le_of_ble_eq_true rfl) ?_
  refine t_Siege_companyAt S V (i := i) (by omega) ?_
  show zW ro 18 8 [some (.ref 6), some (.int (Int32.ofInt (i : Int))), some (.int (Int32.ofInt 3)), none] [.ref (42 + i)] (zN L X (zhi s) R G nc ns) Q
  refine zW.run 11 (pc' := 47) (ls' := [some (.ref 6), some (.int (Int32.ofInt (i : Int))), some (.int (Int32.ofInt 3)), some (.ref (42 + i))]) (st' := [.int (Int32.ofInt 3), .ref (42 + i), .ref 6]) (σ' := (zN L X (zhi s) R G nc ns)) (fun n => rfl) ?_
  refine zW.callV rfl (by decide) rfl rfl rfl rfl rfl (Nat.le_of_ble_eq_true rfl) ?_
  refine t_S_companyFact_3 S V (i := i) (by omega) ?_
  show zW ro 18 50 [some (.ref 6), some (.int (Int32.ofInt (i : Int))), some (.int (Int32.ofInt 3)), some (.ref (42 + i))] [.int (Int32.ofInt (s (42 + i) 3))] (zN L X (zhi s) R G nc ns) Q
  exact zW.jret rfl rfl hQ0
set_option maxHeartbeats 4000000 in
theorem t_S_ofCompany_4 (S : zSR R) (V : zV g U F T B ph s) {i : Nat} (p0 : i < 8) (hQ0 : Q (.inl (some (.int (Int32.ofInt (s (42 + i) 4))))) (zN L X (zhi s) R G nc ns)) : zW ro 18 0 (zfst [.ref 6, .int (Int32.ofInt (i : Int)), .int (Int32.ofInt 4)] 4) [] (zN L X (zhi s) R G nc ns) Q := by
  show zW ro 18 0 [some (.ref 6), some (.int (Int32.ofInt (i : Int))), some (.int (Int32.ofInt 4)), none] [] (zN L X (zhi s) R G nc ns) Q
  have f1 := zA_geo (zV_zA V)
  have hB0 := zV_B V
  refine zW.run 1 (pc' := 1) (ls' := [some (.ref 6), some (.int (Int32.ofInt (i : Int))), some (.int (Int32.ofInt 4)), none]) (st' := [.ref 6]) (σ' := (zN L X (zhi s) R G nc ns)) (fun n => rfl) ?_
  refine zW.getf (v := .ref 7) rfl rfl (zr_6_0 S) ?_
  refine zW.run 1 (pc' := 5) (ls' := [some (.ref 6), some (.int (Int32.ofInt (i : Int))), some (.int (Int32.ofInt 4)), none]) (st' := [.int (Int32.ofInt (i : Int)), .ref 7]) (σ' := (zN L X (zhi s) R G nc ns)) (fun n => rfl) ?_
  refine zW.callV rfl (by decide) rfl rfl rfl rfl rfl (Nat.le_of_ble_eq_true rfl) ?_
  refine t_Siege_companyAt S V (i := i) (by omega) ?_
  show zW ro 18 8 [some (.ref 6), some (.int (Int32.ofInt (i : Int))), some (.int (Int32.ofInt 4)), none] [.ref (42 + i)] (zN L X (zhi s) R G nc ns) Q
  refine zW.run 11 (pc' := 47) (ls' := [some (.ref 6), some (.int (Int32.ofInt (i : Int))), some (.int (Int32.ofInt 4)), some (.ref (42 + i))]) (st' := [.int (Int32.ofInt 4), .ref (42 + i), .ref 6]) (σ' := (zN L X (zhi s) R G nc ns)) (fun n => rfl) ?_
  refine zW.callV rfl (by decide) rfl rfl rfl rfl rfl (Nat.le_of_ble_eq_true rfl) ?_
  refine t_S_companyFact_4 S V (i := i) (by omega) ?_
  show zW ro 18 50 [some (.ref 6), some (.int (Int32.ofInt (i : Int))), some (.int (Int32.ofInt 4)), some (.ref (42 + i))] [.int (Int32.ofInt (s (42 + i) 4))] (zN L X (zhi s) R G nc ns) Q
  exact zW.jret rfl rfl hQ0
set_option maxHeartbeats 4000000 in
theorem t_S_ofCompany_5 (S : zSR R) (V : zV g U F T B ph s) {i : Nat} (p0 : i < 8) (hQ0 : Q (.inl (some (.int (Int32.ofInt (s (42 + i) 5))))) (zN L X (zhi s) R G nc ns)) : zW ro 18 0 (zfst [.ref 6, .int (Int32.ofInt (i : Int)), .int (Int32.ofInt 5)] 4) [] (zN L X (zhi s) R G nc ns) Q := by
  show zW ro 18 0 [some (.ref 6), some (.int (Int32.ofInt (i : Int))), some (.int (Int32.ofInt 5)), none] [] (zN L X (zhi s) R G nc ns) Q
  have f1 := zA_geo (zV_zA V)
  have hB0 := zV_B V
  refine zW.run 1 (pc' := 1) (ls' := [some (.ref 6), some (.int (Int32.ofInt (i : Int))), some (.int (Int32.ofInt 5)), none]) (st' := [.ref 6]) (σ' := (zN L X (zhi s) R G nc ns)) (fun n => rfl) ?_
  refine zW.getf (v := .ref 7) rfl rfl (zr_6_0 S) ?_
  refine zW.run 1 (pc' := 5) (ls' := [some (.ref 6), some (.int (Int32.ofInt (i : Int))), some (.int (Int32.ofInt 5)), none]) (st' := [.int (Int32.ofInt (i : Int)), .ref 7]) (σ' := (zN L X (zhi s) R G nc ns)) (fun n => rfl) ?_
  refine zW.callV rfl (by decide) rfl rfl rfl rfl rfl (Nat.le_of_ble_eq_true rfl) ?_
  refine t_Siege_companyAt S V (i := i) (by omega) ?_
  show zW ro 18 8 [some (.ref 6), some (.int (Int32.ofInt (i : Int))), some (.int (Int32.ofInt 5)), none] [.ref (42 + i)] (zN L X (zhi s) R G nc ns) Q
  refine zW.run 11 (pc' := 47) (ls' := [some (.ref 6), some (.int (Int32.ofInt (i : Int))), some (.int (Int32.ofInt 5)), some (.ref (42 + i))]) (st' := [.int (Int32.ofInt 5), .ref (42 + i), .ref 6]) (σ' := (zN L X (zhi s) R G nc ns)) (fun n => rfl) ?_
  refine zW.callV rfl (by decide) rfl rfl rfl rfl rfl (Nat.le_of_ble_eq_true rfl) ?_
  refine t_S_companyFact_5 S V (i := i) (by omega) ?_
  show zW ro 18 50 [some (.ref 6), some (.int (Int32.ofInt (i : Int))), some (.int (Int32.ofInt 5)), some (.ref (42 + i))] [.int (Int32.ofInt (s (42 + i) 5))] (zN L X (zhi s) R G nc ns) Q
  exact zW.jret rfl rfl hQ0
set_option maxHeartbeats 4000000 in
theorem t_S_ofCompany_6 (S : zSR R) (V : zV g U F T B ph s) {i : Nat} (p0 : i < 8) (hQ0 : ∀ (o : Nat) (w : Int) (v : Int), s (42 + i) 0 = 1 ∧ o = 22 ∨ ¬ s (42 + i) 0 = 1 ∧ o = 21 → w = s (42 + i) 2 * (14 - s (42 + i) 3) * (s o 3 + 50) → 0 ≤ w ∧ w ≤ 420000 → v = w / 100 → Q (.inl (some (.int (Int32.ofInt v)))) (zN L X (zhi s) R G nc ns)) : zW ro 18 0 (zfst [.ref 6, .int (Int32.ofInt (i : Int)), .int (Int32.ofInt 6)] 4) [] (zN L X (zhi s) R G nc ns) Q := by
  show zW ro 18 0 [some (.ref 6), some (.int (Int32.ofInt (i : Int))), some (.int (Int32.ofInt 6)), none] [] (zN L X (zhi s) R G nc ns) Q
  have f1 := zA_geo (zV_zA V)
  have hB0 := zV_B V
  refine zW.run 1 (pc' := 1) (ls' := [some (.ref 6), some (.int (Int32.ofInt (i : Int))), some (.int (Int32.ofInt 6)), none]) (st' := [.ref 6]) (σ' := (zN L X (zhi s) R G nc ns)) (fun n => rfl) ?_
  refine zW.getf (v := .ref 7) rfl rfl (zr_6_0 S) ?_
  refine zW.run 1 (pc' := 5) (ls' := [some (.ref 6), some (.int (Int32.ofInt (i : Int))), some (.int (Int32.ofInt 6)), none]) (st' := [.int (Int32.ofInt (i : Int)), .ref 7]) (σ' := (zN L X (zhi s) R G nc ns)) (fun n => rfl) ?_
  refine zW.callV rfl (by decide) rfl rfl rfl rfl rfl (Nat.le_of_ble_eq_true rfl) ?_
  refine t_Siege_companyAt S V (i := i) (by omega) ?_
  show zW ro 18 8 [some (.ref 6), some (.int (Int32.ofInt (i : Int))), some (.int (Int32.ofInt 6)), none] [.ref (42 + i)] (zN L X (zhi s) R G nc ns) Q
  refine zW.run 11 (pc' := 47) (ls' := [some (.ref 6), some (.int (Int32.ofInt (i : Int))), some (.int (Int32.ofInt 6)), some (.ref (42 + i))]) (st' := [.int (Int32.ofInt 6), .ref (42 + i), .ref 6]) (σ' := (zN L X (zhi s) R G nc ns)) (fun n => rfl) ?_
  refine zW.callV rfl (by decide) rfl rfl rfl rfl rfl (Nat.le_of_ble_eq_true rfl) ?_
  refine t_S_companyFact_6 S V (i := i) (by omega) (fun o_2 w_3 v_4 f5 f6 f7 f8 => ?_)
  show zW ro 18 50 [some (.ref 6), some (.int (Int32.ofInt (i : Int))), some (.int (Int32.ofInt 6)), some (.ref (42 + i))] [.int (Int32.ofInt v_4)] (zN L X (zhi s) R G nc ns) Q
  exact zW.jret rfl rfl (hQ0 o_2 w_3 v_4 (by omega) (by omega) (by omega) (by omega))
set_option maxHeartbeats 4000000 in
theorem t_S_ofMine_6 (S : zSR R) (V : zV g U F T B ph s) {i : Nat} (p0 : (i : Int) < s 7 9) (hQ0 : Q (.inl (some (.int (Int32.ofInt (s (54 + 2 * i) 6))))) (zN L X (zhi s) R G nc ns)) : zW ro 20 0 (zfst [.ref 6, .int (Int32.ofInt (i : Int)), .int (Int32.ofInt 6)] 4) [] (zN L X (zhi s) R G nc ns) Q := by
  show zW ro 20 0 [some (.ref 6), some (.int (Int32.ofInt (i : Int))), some (.int (Int32.ofInt 6)), none] [] (zN L X (zhi s) R G nc ns) Q
  have f1 := zA_geo (zV_zA V)
  have hB0 := zV_B V
  have f2 := zV_sie V
  refine zW.run 1 (pc' := 1) (ls' := [some (.ref 6), some (.int (Int32.ofInt (i : Int))), some (.int (Int32.ofInt 6)), none]) (st' := [.ref 6]) (σ' := (zN L X (zhi s) R G nc ns)) (fun n => rfl) ?_
  refine zW.getf (v := .ref 7) rfl rfl (zr_6_0 S) ?_
  refine zW.run 1 (pc' := 5) (ls' := [some (.ref 6), some (.int (Int32.ofInt (i : Int))), some (.int (Int32.ofInt 6)), none]) (st' := [.int (Int32.ofInt (i : Int)), .ref 7]) (σ' := (zN L X (zhi s) R G nc ns)) (fun n => rfl) ?_
  refine zW.callV rfl (by decide) rfl rfl rfl rfl rfl (Nat.le_of_ble_eq_true rfl) ?_
  refine t_Siege_mineAt S V (i := i) (by omega) (fun f3 f4 => ?_) (fun f5 => ?_)
  · skip
    show zW ro 20 8 [some (.ref 6), some (.int (Int32.ofInt (i : Int))), some (.int (Int32.ofInt 6)), none] [.ref (54 + 2 * i)] (zN L X (zhi s) R G nc ns) Q
    refine zW.run 11 (pc' := 48) (ls' := [some (.ref 6), some (.int (Int32.ofInt (i : Int))), some (.int (Int32.ofInt 6)), some (.ref (54 + 2 * i))]) (st' := [.int (Int32.ofInt 6), .ref (54 + 2 * i), .ref 6]) (σ' := (zN L X (zhi s) R G nc ns)) (fun n => rfl) ?_
    refine zW.callV rfl (by decide) rfl rfl rfl rfl rfl (Nat.le_of_ble_eq_true rfl) ?_
    refine t_S_mineFact_6 S V (i := i) (by omega) ?_
    show zW ro 20 51 [some (.ref 6), some (.int (Int32.ofInt (i : Int))), some (.int (Int32.ofInt 6)), some (.ref (54 + 2 * i))] [.int (Int32.ofInt (s (54 + 2 * i) 6))] (zN L X (zhi s) R G nc ns) Q
    exact zW.jret rfl rfl hQ0
  · skip
    show zW ro 20 8 [some (.ref 6), some (.int (Int32.ofInt (i : Int))), some (.int (Int32.ofInt 6)), none] [.null] (zN L X (zhi s) R G nc ns) Q
    refine zW.run 3 (pc' := 13) (ls' := [some (.ref 6), some (.int (Int32.ofInt (i : Int))), some (.int (Int32.ofInt 6)), some (.null)]) (st' := []) (σ' := (zN L X (zhi s) R G nc ns)) (fun n => rfl) ?_
    exfalso
    omega
set_option maxHeartbeats 4000000 in
theorem t_S_ofMine_7 (S : zSR R) (V : zV g U F T B ph s) {i : Nat} (p0 : (i : Int) < s 7 9) (hQ0 : Q (.inl (some (.int (Int32.ofInt (s (54 + 2 * i) 2))))) (zN L X (zhi s) R G nc ns)) : zW ro 20 0 (zfst [.ref 6, .int (Int32.ofInt (i : Int)), .int (Int32.ofInt 7)] 4) [] (zN L X (zhi s) R G nc ns) Q := by
  show zW ro 20 0 [some (.ref 6), some (.int (Int32.ofInt (i : Int))), some (.int (Int32.ofInt 7)), none] [] (zN L X (zhi s) R G nc ns) Q
  have f1 := zA_geo (zV_zA V)
  have hB0 := zV_B V
  have f2 := zV_sie V
  refine zW.run 1 (pc' := 1) (ls' := [some (.ref 6), some (.int (Int32.ofInt (i : Int))), some (.int (Int32.ofInt 7)), none]) (st' := [.ref 6]) (σ' := (zN L X (zhi s) R G nc ns)) (fun n => rfl) ?_
  refine zW.getf (v := .ref 7) rfl rfl (zr_6_0 S) ?_
  refine zW.run 1 (pc' := 5) (ls' := [some (.ref 6), some (.int (Int32.ofInt (i : Int))), some (.int (Int32.ofInt 7)), none]) (st' := [.int (Int32.ofInt (i : Int)), .ref 7]) (σ' := (zN L X (zhi s) R G nc ns)) (fun n => rfl) ?_
  refine zW.callV rfl (by decide) rfl rfl rfl rfl rfl (Nat.le_of_ble_eq_true rfl) ?_
  refine t_Siege_mineAt S V (i := i) (by omega) (fun f3 f4 => ?_) (fun f5 => ?_)
  · skip
    show zW ro 20 8 [some (.ref 6), some (.int (Int32.ofInt (i : Int))), some (.int (Int32.ofInt 7)), none] [.ref (54 + 2 * i)] (zN L X (zhi s) R G nc ns) Q
    refine zW.run 11 (pc' := 48) (ls' := [some (.ref 6), some (.int (Int32.ofInt (i : Int))), some (.int (Int32.ofInt 7)), some (.ref (54 + 2 * i))]) (st' := [.int (Int32.ofInt 7), .ref (54 + 2 * i), .ref 6]) (σ' := (zN L X (zhi s) R G nc ns)) (fun n => rfl) ?_
    refine zW.callV rfl (by decide) rfl rfl rfl rfl rfl (Nat.le_of_ble_eq_true rfl) ?_
    refine t_S_mineFact_7 S V (i := i) (by omega) ?_
    show zW ro 20 51 [some (.ref 6), some (.int (Int32.ofInt (i : Int))), some (.int (Int32.ofInt 7)), some (.ref (54 + 2 * i))] [.int (Int32.ofInt (s (54 + 2 * i) 2))] (zN L X (zhi s) R G nc ns) Q
    exact zW.jret rfl rfl hQ0
  · skip
    show zW ro 20 8 [some (.ref 6), some (.int (Int32.ofInt (i : Int))), some (.int (Int32.ofInt 7)), none] [.null] (zN L X (zhi s) R G nc ns) Q
    refine zW.run 3 (pc' := 13) (ls' := [some (.ref 6), some (.int (Int32.ofInt (i : Int))), some (.int (Int32.ofInt 7)), some (.null)]) (st' := []) (σ' := (zN L X (zhi s) R G nc ns)) (fun n => rfl) ?_
    exfalso
    omega
set_option maxHeartbeats 4000000 in
theorem t_S_ofMine_8 (S : zSR R) (V : zV g U F T B ph s) {i : Nat} (p0 : (i : Int) < s 7 9) (hQ0 : s (54 + 2 * i) 6 = 0 → 2 ≤ s (54 + 2 * i) 2 → Q (.inl (some (.int (Int32.ofInt 1)))) (zN L X (zhi s) R G nc ns)) (hQ1 : Q (.inl (some (.int (Int32.ofInt 0)))) (zN L X (zhi s) R G nc ns)) : zW ro 20 0 (zfst [.ref 6, .int (Int32.ofInt (i : Int)), .int (Int32.ofInt 8)] 4) [] (zN L X (zhi s) R G nc ns) Q := by
  show zW ro 20 0 [some (.ref 6), some (.int (Int32.ofInt (i : Int))), some (.int (Int32.ofInt 8)), none] [] (zN L X (zhi s) R G nc ns) Q
  have f1 := zA_geo (zV_zA V)
  have hB0 := zV_B V
  have f2 := zV_sie V
  refine zW.run 1 (pc' := 1) (ls' := [some (.ref 6), some (.int (Int32.ofInt (i : Int))), some (.int (Int32.ofInt 8)), none]) (st' := [.ref 6]) (σ' := (zN L X (zhi s) R G nc ns)) (fun n => rfl) ?_
  refine zW.getf (v := .ref 7) rfl rfl (zr_6_0 S) ?_
  refine zW.run 1 (pc' := 5) (ls' := [some (.ref 6), some (.int (Int32.ofInt (i : Int))), some (.int (Int32.ofInt 8)), none]) (st' := [.int (Int32.ofInt (i : Int)), .ref 7]) (σ' := (zN L X (zhi s) R G nc ns)) (fun n => rfl) ?_
  refine zW.callV rfl (by decide) rfl rfl rfl rfl rfl (Nat.le_of_ble_eq_true rfl) ?_
  refine t_Siege_mineAt S V (i := i) (by omega) (fun f3 f4 => ?_) (fun f5 => ?_)
  · skip
    show zW ro 20 8 [some (.ref 6), some (.int (Int32.ofInt (i : Int))), some (.int (Int32.ofInt 8)), none] [.ref (54 + 2 * i)] (zN L X (zhi s) R G nc ns) Q
    refine zW.run 11 (pc' := 48) (ls' := [some (.ref 6), some (.int (Int32.ofInt (i : Int))), some (.int (Int32.ofInt 8)), some (.ref (54 + 2 * i))]) (st' := [.int (Int32.ofInt 8), .ref (54 + 2 * i), .ref 6]) (σ' := (zN L X (zhi s) R G nc ns)) (fun n => rfl) ?_
    refine zW.callV rfl (by decide) rfl rfl rfl rfl rfl (Nat.le_of_ble_eq_true rfl) ?_
    refine t_S_mineFact_8 S V (i := i) (by omega) (fun f6 f7 => ?_) ?_
    · skip
      show zW ro 20 51 [some (.ref 6), some (.int (Int32.ofInt (i : Int))), some (.int (Int32.ofInt 8)), some (.ref (54 + 2 * i))] [.int (Int32.ofInt 1)] (zN L X (zhi s) R G nc ns) Q
      exact zW.jret rfl rfl (hQ0 (by omega) (by omega))
    · skip
      show zW ro 20 51 [some (.ref 6), some (.int (Int32.ofInt (i : Int))), some (.int (Int32.ofInt 8)), some (.ref (54 + 2 * i))] [.int (Int32.ofInt 0)] (zN L X (zhi s) R G nc ns) Q
      exact zW.jret rfl rfl hQ1
  · skip
    show zW ro 20 8 [some (.ref 6), some (.int (Int32.ofInt (i : Int))), some (.int (Int32.ofInt 8)), none] [.null] (zN L X (zhi s) R G nc ns) Q
    refine zW.run 3 (pc' := 13) (ls' := [some (.ref 6), some (.int (Int32.ofInt (i : Int))), some (.int (Int32.ofInt 8)), some (.null)]) (st' := []) (σ' := (zN L X (zhi s) R G nc ns)) (fun n => rfl) ?_
    exfalso
    omega
set_option maxHeartbeats 4000000 in
theorem t_S_ofSide_0_1 (S : zSR R) (V : zV g U F T B ph s)   (hQ0 : Q (.inl (some (.int (Int32.ofInt (s 21 1))))) (zN L X (zhi s) R G nc ns)) : zW ro 21 0 (zfst [.ref 6, .int (Int32.ofInt 0), .int (Int32.ofInt 1)] 3) [] (zN L X (zhi s) R G nc ns) Q := by
  show zW ro 21 0 [some (.ref 6), some (.int (Int32.ofInt 0)), some (.int (Int32.ofInt 1))] [] (zN L X (zhi s) R G nc ns) Q
  have f1 := zA_geo (zV_zA V)
  have hB0 := zV_B V
  refine zW.run 1 (pc' := 1) (ls' := [some (.ref 6), some (.int (Int32.ofInt 0)), some (.int (Int32.ofInt 1))]) (st' := [.int (Int32.ofInt 0)]) (σ' := (zN L X (zhi s) R G nc ns)) (fun n => rfl) ?_
  refine zW.callS rfl rfl rfl rfl rfl (Nat.le_of_ble_eq_true rfl) ?_
  refine t_S_isSide_0 S ?_
  show zW ro 21 4 [some (.ref 6), some (.int (Int32.ofInt 0)), some (.int (Int32.ofInt 1))] [.int (Int32.ofInt 1)] (zN L X (zhi s) R G nc ns) Q
  refine zW.run 9 (pc' := 31) (ls' := [some (.ref 6), some (.int (Int32.ofInt 0)), some (.int (Int32.ofInt 1))]) (st' := [.int (Int32.ofInt 1), .int (Int32.ofInt 0), .ref 6]) (σ' := (zN L X (zhi s) R G nc ns)) (fun n => rfl) ?_
  refine zW.callV rfl (by decide) rfl rfl rfl rfl rfl (Nat.le_of_ble_eq_true rfl) ?_
  refine t_S_sideFact_0_1 S V ?_
  show zW ro 21 34 [some (.ref 6), some (.int (Int32.ofInt 0)), some (.int (Int32.ofInt 1))] [.int (Int32.ofInt (s 21 1))] (zN L X (zhi s) R G nc ns) Q
  have f2 := zV_sid V (o := 21) (by omega)
  exact zW.jret rfl rfl hQ0
set_option maxHeartbeats 4000000 in
theorem t_S_ofSide_0_2 (S : zSR R) (V : zV g U F T B ph s)   (hQ0 : Q (.inl (some (.int (Int32.ofInt (s 21 2))))) (zN L X (zhi s) R G nc ns)) : zW ro 21 0 (zfst [.ref 6, .int (Int32.ofInt 0), .int (Int32.ofInt 2)] 3) [] (zN L X (zhi s) R G nc ns) Q := by
  show zW ro 21 0 [some (.ref 6), some (.int (Int32.ofInt 0)), some (.int (Int32.ofInt 2))] [] (zN L X (zhi s) R G nc ns) Q
  have f1 := zA_geo (zV_zA V)
  have hB0 := zV_B V
  refine zW.run 1 (pc' := 1) (ls' := [some (.ref 6), some (.int (Int32.ofInt 0)), some (.int (Int32.ofInt 2))]) (st' := [.int (Int32.ofInt 0)]) (σ' := (zN L X (zhi s) R G nc ns)) (fun n => rfl) ?_
  refine zW.callS rfl rfl rfl rfl rfl (Nat.le_of_ble_eq_true rfl) ?_
  refine t_S_isSide_0 S ?_
  show zW ro 21 4 [some (.ref 6), some (.int (Int32.ofInt 0)), some (.int (Int32.ofInt 2))] [.int (Int32.ofInt 1)] (zN L X (zhi s) R G nc ns) Q
  refine zW.run 9 (pc' := 31) (ls' := [some (.ref 6), some (.int (Int32.ofInt 0)), some (.int (Int32.ofInt 2))]) (st' := [.int (Int32.ofInt 2), .int (Int32.ofInt 0), .ref 6]) (σ' := (zN L X (zhi s) R G nc ns)) (fun n => rfl) ?_
  refine zW.callV rfl (by decide) rfl rfl rfl rfl rfl (Nat.le_of_ble_eq_true rfl) ?_
  refine t_S_sideFact_0_2 S V ?_
  show zW ro 21 34 [some (.ref 6), some (.int (Int32.ofInt 0)), some (.int (Int32.ofInt 2))] [.int (Int32.ofInt (s 21 2))] (zN L X (zhi s) R G nc ns) Q
  have f2 := zV_sid V (o := 21) (by omega)
  exact zW.jret rfl rfl hQ0
set_option maxHeartbeats 4000000 in
theorem t_S_ofSide_0_3 (S : zSR R) (V : zV g U F T B ph s)   (hQ0 : Q (.inl (some (.int (Int32.ofInt (s 21 3))))) (zN L X (zhi s) R G nc ns)) : zW ro 21 0 (zfst [.ref 6, .int (Int32.ofInt 0), .int (Int32.ofInt 3)] 3) [] (zN L X (zhi s) R G nc ns) Q := by
  show zW ro 21 0 [some (.ref 6), some (.int (Int32.ofInt 0)), some (.int (Int32.ofInt 3))] [] (zN L X (zhi s) R G nc ns) Q
  have f1 := zA_geo (zV_zA V)
  have hB0 := zV_B V
  refine zW.run 1 (pc' := 1) (ls' := [some (.ref 6), some (.int (Int32.ofInt 0)), some (.int (Int32.ofInt 3))]) (st' := [.int (Int32.ofInt 0)]) (σ' := (zN L X (zhi s) R G nc ns)) (fun n => rfl) ?_
  refine zW.callS rfl rfl rfl rfl rfl (Nat.le_of_ble_eq_true rfl) ?_
  refine t_S_isSide_0 S ?_
  show zW ro 21 4 [some (.ref 6), some (.int (Int32.ofInt 0)), some (.int (Int32.ofInt 3))] [.int (Int32.ofInt 1)] (zN L X (zhi s) R G nc ns) Q
  refine zW.run 9 (pc' := 31) (ls' := [some (.ref 6), some (.int (Int32.ofInt 0)), some (.int (Int32.ofInt 3))]) (st' := [.int (Int32.ofInt 3), .int (Int32.ofInt 0), .ref 6]) (σ' := (zN L X (zhi s) R G nc ns)) (fun n => rfl) ?_
  refine zW.callV rfl (by decide) rfl rfl rfl rfl rfl (Nat.le_of_ble_eq_true rfl) ?_
  refine t_S_sideFact_0_3 S V ?_
  show zW ro 21 34 [some (.ref 6), some (.int (Int32.ofInt 0)), some (.int (Int32.ofInt 3))] [.int (Int32.ofInt (s 21 3))] (zN L X (zhi s) R G nc ns) Q
  have f2 := zV_sid V (o := 21) (by omega)
  exact zW.jret rfl rfl hQ0
set_option maxHeartbeats 4000000 in
theorem t_S_ofSide_0_5 (S : zSR R) (V : zV g U F T B ph s)   (hQ0 : ∀ (v : Int), 0 ≤ v ∧ v ≤ 2400 → v = zmm s 0 12 → Q (.inl (some (.int (Int32.ofInt v)))) (zN L X (zhi s) R G nc ns)) : zW ro 21 0 (zfst [.ref 6, .int (Int32.ofInt 0), .int (Int32.ofInt 5)] 3) [] (zN L X (zhi s) R G nc ns) Q := by
  show zW ro 21 0 [some (.ref 6), some (.int (Int32.ofInt 0)), some (.int (Int32.ofInt 5))] [] (zN L X (zhi s) R G nc ns) Q
  have f1 := zA_geo (zV_zA V)
  have hB0 := zV_B V
  refine zW.run 1 (pc' := 1) (ls' := [some (.ref 6), some (.int (Int32.ofInt 0)), some (.int (Int32.ofInt 5))]) (st' := [.int (Int32.ofInt 0)]) (σ' := (zN L X (zhi s) R G nc ns)) (fun n => rfl) ?_
  refine zW.callS rfl rfl rfl rfl rfl (Nat.le_of_ble_eq_true rfl) ?_
  refine t_S_isSide_0 S ?_
  show zW ro 21 4 [some (.ref 6), some (.int (Int32.ofInt 0)), some (.int (Int32.ofInt 5))] [.int (Int32.ofInt 1)] (zN L X (zhi s) R G nc ns) Q
  refine zW.run 9 (pc' := 31) (ls' := [some (.ref 6), some (.int (Int32.ofInt 0)), some (.int (Int32.ofInt 5))]) (st' := [.int (Int32.ofInt 5), .int (Int32.ofInt 0), .ref 6]) (σ' := (zN L X (zhi s) R G nc ns)) (fun n => rfl) ?_
  refine zW.callV rfl (by decide) rfl rfl rfl rfl rfl (Nat.le_of_ble_eq_true rfl) ?_
  refine t_S_sideFact_0_5 S V (fun v_2 f3 f4 => ?_)
  show zW ro 21 34 [some (.ref 6), some (.int (Int32.ofInt 0)), some (.int (Int32.ofInt 5))] [.int (Int32.ofInt v_2)] (zN L X (zhi s) R G nc ns) Q
  exact zW.jret rfl rfl (hQ0 v_2 (by omega) (by omega))
set_option maxHeartbeats 4000000 in
theorem t_S_ofSide_0_6 (S : zSR R) (V : zV g U F T B ph s)   (hQ0 : ∀ (v : Int), 0 ≤ v ∧ v ≤ 12 → v = zco s 0 12 → Q (.inl (some (.int (Int32.ofInt v)))) (zN L X (zhi s) R G nc ns)) : zW ro 21 0 (zfst [.ref 6, .int (Int32.ofInt 0), .int (Int32.ofInt 6)] 3) [] (zN L X (zhi s) R G nc ns) Q := by
  show zW ro 21 0 [some (.ref 6), some (.int (Int32.ofInt 0)), some (.int (Int32.ofInt 6))] [] (zN L X (zhi s) R G nc ns) Q
  have f1 := zA_geo (zV_zA V)
  have hB0 := zV_B V
  refine zW.run 1 (pc' := 1) (ls' := [some (.ref 6), some (.int (Int32.ofInt 0)), some (.int (Int32.ofInt 6))]) (st' := [.int (Int32.ofInt 0)]) (σ' := (zN L X (zhi s) R G nc ns)) (fun n => rfl) ?_
  refine zW.callS rfl rfl rfl rfl rfl (Nat.le_of_ble_eq_true rfl) ?_
  refine t_S_isSide_0 S ?_
  show zW ro 21 4 [some (.ref 6), some (.int (Int32.ofInt 0)), some (.int (Int32.ofInt 6))] [.int (Int32.ofInt 1)] (zN L X (zhi s) R G nc ns) Q
  refine zW.run 9 (pc' := 31) (ls' := [some (.ref 6), some (.int (Int32.ofInt 0)), some (.int (Int32.ofInt 6))]) (st' := [.int (Int32.ofInt 6), .int (Int32.ofInt 0), .ref 6]) (σ' := (zN L X (zhi s) R G nc ns)) (fun n => rfl) ?_
  refine zW.callV rfl (by decide) rfl rfl rfl rfl rfl (Nat.le_of_ble_eq_true rfl) ?_
  refine t_S_sideFact_0_6 S V (fun v_2 f3 f4 => ?_)
  show zW ro 21 34 [some (.ref 6), some (.int (Int32.ofInt 0)), some (.int (Int32.ofInt 6))] [.int (Int32.ofInt v_2)] (zN L X (zhi s) R G nc ns) Q
  exact zW.jret rfl rfl (hQ0 v_2 (by omega) (by omega))
set_option maxHeartbeats 4000000 in
theorem t_S_ofSide_0_9 (S : zSR R) (V : zV g U F T B ph s)   (hQ0 : Q (.inl (some (.int (Int32.ofInt (s 21 7))))) (zN L X (zhi s) R G nc ns)) : zW ro 21 0 (zfst [.ref 6, .int (Int32.ofInt 0), .int (Int32.ofInt 9)] 3) [] (zN L X (zhi s) R G nc ns) Q := by
  show zW ro 21 0 [some (.ref 6), some (.int (Int32.ofInt 0)), some (.int (Int32.ofInt 9))] [] (zN L X (zhi s) R G nc ns) Q
  have f1 := zA_geo (zV_zA V)
  have hB0 := zV_B V
  refine zW.run 1 (pc' := 1) (ls' := [some (.ref 6), some (.int (Int32.ofInt 0)), some (.int (Int32.ofInt 9))]) (st' := [.int (Int32.ofInt 0)]) (σ' := (zN L X (zhi s) R G nc ns)) (fun n => rfl) ?_
  refine zW.callS rfl rfl rfl rfl rfl (Nat.le_of_ble_eq_true rfl) ?_
  refine t_S_isSide_0 S ?_
  show zW ro 21 4 [some (.ref 6), some (.int (Int32.ofInt 0)), some (.int (Int32.ofInt 9))] [.int (Int32.ofInt 1)] (zN L X (zhi s) R G nc ns) Q
  refine zW.run 9 (pc' := 31) (ls' := [some (.ref 6), some (.int (Int32.ofInt 0)), some (.int (Int32.ofInt 9))]) (st' := [.int (Int32.ofInt 9), .int (Int32.ofInt 0), .ref 6]) (σ' := (zN L X (zhi s) R G nc ns)) (fun n => rfl) ?_
  refine zW.callV rfl (by decide) rfl rfl rfl rfl rfl (Nat.le_of_ble_eq_true rfl) ?_
  refine t_S_sideFact_0_9 S V ?_
  show zW ro 21 34 [some (.ref 6), some (.int (Int32.ofInt 0)), some (.int (Int32.ofInt 9))] [.int (Int32.ofInt (s 21 7))] (zN L X (zhi s) R G nc ns) Q
  exact zW.jret rfl rfl hQ0
set_option maxHeartbeats 4000000 in
theorem t_S_ofSide_0_11 (S : zSR R) (V : zV g U F T B ph s)   (hQ0 : Q (.inl (some (.int (Int32.ofInt (s 21 9))))) (zN L X (zhi s) R G nc ns)) : zW ro 21 0 (zfst [.ref 6, .int (Int32.ofInt 0), .int (Int32.ofInt 11)] 3) [] (zN L X (zhi s) R G nc ns) Q := by
  show zW ro 21 0 [some (.ref 6), some (.int (Int32.ofInt 0)), some (.int (Int32.ofInt 11))] [] (zN L X (zhi s) R G nc ns) Q
  have f1 := zA_geo (zV_zA V)
  have hB0 := zV_B V
  refine zW.run 1 (pc' := 1) (ls' := [some (.ref 6), some (.int (Int32.ofInt 0)), some (.int (Int32.ofInt 11))]) (st' := [.int (Int32.ofInt 0)]) (σ' := (zN L X (zhi s) R G nc ns)) (fun n => rfl) ?_
  refine zW.callS rfl rfl rfl rfl rfl (Nat.le_of_ble_eq_true rfl) ?_
  refine t_S_isSide_0 S ?_
  show zW ro 21 4 [some (.ref 6), some (.int (Int32.ofInt 0)), some (.int (Int32.ofInt 11))] [.int (Int32.ofInt 1)] (zN L X (zhi s) R G nc ns) Q
  refine zW.run 9 (pc' := 31) (ls' := [some (.ref 6), some (.int (Int32.ofInt 0)), some (.int (Int32.ofInt 11))]) (st' := [.int (Int32.ofInt 11), .int (Int32.ofInt 0), .ref 6]) (σ' := (zN L X (zhi s) R G nc ns)) (fun n => rfl) ?_
  refine zW.callV rfl (by decide) rfl rfl rfl rfl rfl (Nat.le_of_ble_eq_true rfl) ?_
  refine t_S_sideFact_0_11 S V ?_
  show zW ro 21 34 [some (.ref 6), some (.int (Int32.ofInt 0)), some (.int (Int32.ofInt 11))] [.int (Int32.ofInt (s 21 9))] (zN L X (zhi s) R G nc ns) Q
  exact zW.jret rfl rfl hQ0
set_option maxHeartbeats 4000000 in
theorem t_S_ofSide_0_12 (S : zSR R) (V : zV g U F T B ph s)   (hQ0 : ∀ (v : Int), 0 ≤ v ∧ v ≤ 16 → v = zrg s 0 16 → Q (.inl (some (.int (Int32.ofInt v)))) (zN L X (zhi s) R G nc ns)) : zW ro 21 0 (zfst [.ref 6, .int (Int32.ofInt 0), .int (Int32.ofInt 12)] 3) [] (zN L X (zhi s) R G nc ns) Q := by
  show zW ro 21 0 [some (.ref 6), some (.int (Int32.ofInt 0)), some (.int (Int32.ofInt 12))] [] (zN L X (zhi s) R G nc ns) Q
  have f1 := zA_geo (zV_zA V)
  have hB0 := zV_B V
  refine zW.run 1 (pc' := 1) (ls' := [some (.ref 6), some (.int (Int32.ofInt 0)), some (.int (Int32.ofInt 12))]) (st' := [.int (Int32.ofInt 0)]) (σ' := (zN L X (zhi s) R G nc ns)) (fun n => rfl) ?_
  refine zW.callS rfl rfl rfl rfl rfl (Nat.le_of_ble_eq_true rfl) ?_
  refine t_S_isSide_0 S ?_
  show zW ro 21 4 [some (.ref 6), some (.int (Int32.ofInt 0)), some (.int (Int32.ofInt 12))] [.int (Int32.ofInt 1)] (zN L X (zhi s) R G nc ns) Q
  refine zW.run 9 (pc' := 31) (ls' := [some (.ref 6), some (.int (Int32.ofInt 0)), some (.int (Int32.ofInt 12))]) (st' := [.int (Int32.ofInt 12), .int (Int32.ofInt 0), .ref 6]) (σ' := (zN L X (zhi s) R G nc ns)) (fun n => rfl) ?_
  refine zW.callV rfl (by decide) rfl rfl rfl rfl rfl (Nat.le_of_ble_eq_true rfl) ?_
  refine t_S_sideFact_0_12 S V (fun v_2 f3 f4 => ?_)
  show zW ro 21 34 [some (.ref 6), some (.int (Int32.ofInt 0)), some (.int (Int32.ofInt 12))] [.int (Int32.ofInt v_2)] (zN L X (zhi s) R G nc ns) Q
  exact zW.jret rfl rfl (hQ0 v_2 (by omega) (by omega))
set_option maxHeartbeats 4000000 in
theorem t_S_ofSide_1_1 (S : zSR R) (V : zV g U F T B ph s)   (hQ0 : Q (.inl (some (.int (Int32.ofInt (s 22 1))))) (zN L X (zhi s) R G nc ns)) : zW ro 21 0 (zfst [.ref 6, .int (Int32.ofInt 1), .int (Int32.ofInt 1)] 3) [] (zN L X (zhi s) R G nc ns) Q := by
  show zW ro 21 0 [some (.ref 6), some (.int (Int32.ofInt 1)), some (.int (Int32.ofInt 1))] [] (zN L X (zhi s) R G nc ns) Q
  have f1 := zA_geo (zV_zA V)
  have hB0 := zV_B V
  refine zW.run 1 (pc' := 1) (ls' := [some (.ref 6), some (.int (Int32.ofInt 1)), some (.int (Int32.ofInt 1))]) (st' := [.int (Int32.ofInt 1)]) (σ' := (zN L X (zhi s) R G nc ns)) (fun n => rfl) ?_
  refine zW.callS rfl rfl rfl rfl rfl (Nat.le_of_ble_eq_true rfl) ?_
  refine t_S_isSide_1 S ?_
  show zW ro 21 4 [some (.ref 6), some (.int (Int32.ofInt 1)), some (.int (Int32.ofInt 1))] [.int (Int32.ofInt 1)] (zN L X (zhi s) R G nc ns) Q
  refine zW.run 9 (pc' := 31) (ls' := [some (.ref 6), some (.int (Int32.ofInt 1)), some (.int (Int32.ofInt 1))]) (st' := [.int (Int32.ofInt 1), .int (Int32.ofInt 1), .ref 6]) (σ' := (zN L X (zhi s) R G nc ns)) (fun n => rfl) ?_
  refine zW.callV rfl (by decide) rfl rfl rfl rfl rfl (Nat.le_of_ble_eq_true rfl) ?_
  refine t_S_sideFact_1_1 S V ?_
  show zW ro 21 34 [some (.ref 6), some (.int (Int32.ofInt 1)), some (.int (Int32.ofInt 1))] [.int (Int32.ofInt (s 22 1))] (zN L X (zhi s) R G nc ns) Q
  have f2 := zV_sid V (o := 22) (by omega)
  exact zW.jret rfl rfl hQ0
set_option maxHeartbeats 4000000 in
theorem t_S_ofSide_1_2 (S : zSR R) (V : zV g U F T B ph s)   (hQ0 : Q (.inl (some (.int (Int32.ofInt (s 22 2))))) (zN L X (zhi s) R G nc ns)) : zW ro 21 0 (zfst [.ref 6, .int (Int32.ofInt 1), .int (Int32.ofInt 2)] 3) [] (zN L X (zhi s) R G nc ns) Q := by
  show zW ro 21 0 [some (.ref 6), some (.int (Int32.ofInt 1)), some (.int (Int32.ofInt 2))] [] (zN L X (zhi s) R G nc ns) Q
  have f1 := zA_geo (zV_zA V)
  have hB0 := zV_B V
  refine zW.run 1 (pc' := 1) (ls' := [some (.ref 6), some (.int (Int32.ofInt 1)), some (.int (Int32.ofInt 2))]) (st' := [.int (Int32.ofInt 1)]) (σ' := (zN L X (zhi s) R G nc ns)) (fun n => rfl) ?_
  refine zW.callS rfl rfl rfl rfl rfl (Nat.le_of_ble_eq_true rfl) ?_
  refine t_S_isSide_1 S ?_
  show zW ro 21 4 [some (.ref 6), some (.int (Int32.ofInt 1)), some (.int (Int32.ofInt 2))] [.int (Int32.ofInt 1)] (zN L X (zhi s) R G nc ns) Q
  refine zW.run 9 (pc' := 31) (ls' := [some (.ref 6), some (.int (Int32.ofInt 1)), some (.int (Int32.ofInt 2))]) (st' := [.int (Int32.ofInt 2), .int (Int32.ofInt 1), .ref 6]) (σ' := (zN L X (zhi s) R G nc ns)) (fun n => rfl) ?_
  refine zW.callV rfl (by decide) rfl rfl rfl rfl rfl (Nat.le_of_ble_eq_true rfl) ?_
  refine t_S_sideFact_1_2 S V ?_
  show zW ro 21 34 [some (.ref 6), some (.int (Int32.ofInt 1)), some (.int (Int32.ofInt 2))] [.int (Int32.ofInt (s 22 2))] (zN L X (zhi s) R G nc ns) Q
  have f2 := zV_sid V (o := 22) (by omega)
  exact zW.jret rfl rfl hQ0
set_option maxHeartbeats 4000000 in
theorem t_S_ofSide_1_3 (S : zSR R) (V : zV g U F T B ph s)   (hQ0 : Q (.inl (some (.int (Int32.ofInt (s 22 3))))) (zN L X (zhi s) R G nc ns)) : zW ro 21 0 (zfst [.ref 6, .int (Int32.ofInt 1), .int (Int32.ofInt 3)] 3) [] (zN L X (zhi s) R G nc ns) Q := by
  show zW ro 21 0 [some (.ref 6), some (.int (Int32.ofInt 1)), some (.int (Int32.ofInt 3))] [] (zN L X (zhi s) R G nc ns) Q
  have f1 := zA_geo (zV_zA V)
  have hB0 := zV_B V
  refine zW.run 1 (pc' := 1) (ls' := [some (.ref 6), some (.int (Int32.ofInt 1)), some (.int (Int32.ofInt 3))]) (st' := [.int (Int32.ofInt 1)]) (σ' := (zN L X (zhi s) R G nc ns)) (fun n => rfl) ?_
  refine zW.callS rfl rfl rfl rfl rfl (Nat.le_of_ble_eq_true rfl) ?_
  refine t_S_isSide_1 S ?_
  show zW ro 21 4 [some (.ref 6), some (.int (Int32.ofInt 1)), some (.int (Int32.ofInt 3))] [.int (Int32.ofInt 1)] (zN L X (zhi s) R G nc ns) Q
  refine zW.run 9 (pc' := 31) (ls' := [some (.ref 6), some (.int (Int32.ofInt 1)), some (.int (Int32.ofInt 3))]) (st' := [.int (Int32.ofInt 3), .int (Int32.ofInt 1), .ref 6]) (σ' := (zN L X (zhi s) R G nc ns)) (fun n => rfl) ?_
  refine zW.callV rfl (by decide) rfl rfl rfl rfl rfl (Nat.le_of_ble_eq_true rfl) ?_
  refine t_S_sideFact_1_3 S V ?_
  show zW ro 21 34 [some (.ref 6), some (.int (Int32.ofInt 1)), some (.int (Int32.ofInt 3))] [.int (Int32.ofInt (s 22 3))] (zN L X (zhi s) R G nc ns) Q
  have f2 := zV_sid V (o := 22) (by omega)
  exact zW.jret rfl rfl hQ0
set_option maxHeartbeats 4000000 in
theorem t_S_ofSide_1_5 (S : zSR R) (V : zV g U F T B ph s)   (hQ0 : ∀ (v : Int), 0 ≤ v ∧ v ≤ 2400 → v = zmm s 1 12 → Q (.inl (some (.int (Int32.ofInt v)))) (zN L X (zhi s) R G nc ns)) : zW ro 21 0 (zfst [.ref 6, .int (Int32.ofInt 1), .int (Int32.ofInt 5)] 3) [] (zN L X (zhi s) R G nc ns) Q := by
  show zW ro 21 0 [some (.ref 6), some (.int (Int32.ofInt 1)), some (.int (Int32.ofInt 5))] [] (zN L X (zhi s) R G nc ns) Q
  have f1 := zA_geo (zV_zA V)
  have hB0 := zV_B V
  refine zW.run 1 (pc' := 1) (ls' := [some (.ref 6), some (.int (Int32.ofInt 1)), some (.int (Int32.ofInt 5))]) (st' := [.int (Int32.ofInt 1)]) (σ' := (zN L X (zhi s) R G nc ns)) (fun n => rfl) ?_
  refine zW.callS rfl rfl rfl rfl rfl (Nat.le_of_ble_eq_true rfl) ?_
  refine t_S_isSide_1 S ?_
  show zW ro 21 4 [some (.ref 6), some (.int (Int32.ofInt 1)), some (.int (Int32.ofInt 5))] [.int (Int32.ofInt 1)] (zN L X (zhi s) R G nc ns) Q
  refine zW.run 9 (pc' := 31) (ls' := [some (.ref 6), some (.int (Int32.ofInt 1)), some (.int (Int32.ofInt 5))]) (st' := [.int (Int32.ofInt 5), .int (Int32.ofInt 1), .ref 6]) (σ' := (zN L X (zhi s) R G nc ns)) (fun n => rfl) ?_
  refine zW.callV rfl (by decide) rfl rfl rfl rfl rfl (Nat.le_of_ble_eq_true rfl) ?_
  refine t_S_sideFact_1_5 S V (fun v_2 f3 f4 => ?_)
  show zW ro 21 34 [some (.ref 6), some (.int (Int32.ofInt 1)), some (.int (Int32.ofInt 5))] [.int (Int32.ofInt v_2)] (zN L X (zhi s) R G nc ns) Q
  exact zW.jret rfl rfl (hQ0 v_2 (by omega) (by omega))
set_option maxHeartbeats 4000000 in
theorem t_S_ofSide_1_6 (S : zSR R) (V : zV g U F T B ph s)   (hQ0 : ∀ (v : Int), 0 ≤ v ∧ v ≤ 12 → v = zco s 1 12 → Q (.inl (some (.int (Int32.ofInt v)))) (zN L X (zhi s) R G nc ns)) : zW ro 21 0 (zfst [.ref 6, .int (Int32.ofInt 1), .int (Int32.ofInt 6)] 3) [] (zN L X (zhi s) R G nc ns) Q := by
  show zW ro 21 0 [some (.ref 6), some (.int (Int32.ofInt 1)), some (.int (Int32.ofInt 6))] [] (zN L X (zhi s) R G nc ns) Q
  have f1 := zA_geo (zV_zA V)
  have hB0 := zV_B V
  refine zW.run 1 (pc' := 1) (ls' := [some (.ref 6), some (.int (Int32.ofInt 1)), some (.int (Int32.ofInt 6))]) (st' := [.int (Int32.ofInt 1)]) (σ' := (zN L X (zhi s) R G nc ns)) (fun n => rfl) ?_
  refine zW.callS rfl rfl rfl rfl rfl (Nat.le_of_ble_eq_true rfl) ?_
  refine t_S_isSide_1 S ?_
  show zW ro 21 4 [some (.ref 6), some (.int (Int32.ofInt 1)), some (.int (Int32.ofInt 6))] [.int (Int32.ofInt 1)] (zN L X (zhi s) R G nc ns) Q
  refine zW.run 9 (pc' := 31) (ls' := [some (.ref 6), some (.int (Int32.ofInt 1)), some (.int (Int32.ofInt 6))]) (st' := [.int (Int32.ofInt 6), .int (Int32.ofInt 1), .ref 6]) (σ' := (zN L X (zhi s) R G nc ns)) (fun n => rfl) ?_
  refine zW.callV rfl (by decide) rfl rfl rfl rfl rfl (Nat.le_of_ble_eq_true rfl) ?_
  refine t_S_sideFact_1_6 S V (fun v_2 f3 f4 => ?_)
  show zW ro 21 34 [some (.ref 6), some (.int (Int32.ofInt 1)), some (.int (Int32.ofInt 6))] [.int (Int32.ofInt v_2)] (zN L X (zhi s) R G nc ns) Q
  exact zW.jret rfl rfl (hQ0 v_2 (by omega) (by omega))
set_option maxHeartbeats 4000000 in
theorem t_S_ofSide_1_9 (S : zSR R) (V : zV g U F T B ph s)   (hQ0 : Q (.inl (some (.int (Int32.ofInt (s 22 7))))) (zN L X (zhi s) R G nc ns)) : zW ro 21 0 (zfst [.ref 6, .int (Int32.ofInt 1), .int (Int32.ofInt 9)] 3) [] (zN L X (zhi s) R G nc ns) Q := by
  show zW ro 21 0 [some (.ref 6), some (.int (Int32.ofInt 1)), some (.int (Int32.ofInt 9))] [] (zN L X (zhi s) R G nc ns) Q
  have f1 := zA_geo (zV_zA V)
  have hB0 := zV_B V
  refine zW.run 1 (pc' := 1) (ls' := [some (.ref 6), some (.int (Int32.ofInt 1)), some (.int (Int32.ofInt 9))]) (st' := [.int (Int32.ofInt 1)]) (σ' := (zN L X (zhi s) R G nc ns)) (fun n => rfl) ?_
  refine zW.callS rfl rfl rfl rfl rfl (Nat.le_of_ble_eq_true rfl) ?_
  refine t_S_isSide_1 S ?_
  show zW ro 21 4 [some (.ref 6), some (.int (Int32.ofInt 1)), some (.int (Int32.ofInt 9))] [.int (Int32.ofInt 1)] (zN L X (zhi s) R G nc ns) Q
  refine zW.run 9 (pc' := 31) (ls' := [some (.ref 6), some (.int (Int32.ofInt 1)), some (.int (Int32.ofInt 9))]) (st' := [.int (Int32.ofInt 9), .int (Int32.ofInt 1), .ref 6]) (σ' := (zN L X (zhi s) R G nc ns)) (fun n => rfl) ?_
  refine zW.callV rfl (by decide) rfl rfl rfl rfl rfl (Nat.le_of_ble_eq_true rfl) ?_
  refine t_S_sideFact_1_9 S V ?_
  show zW ro 21 34 [some (.ref 6), some (.int (Int32.ofInt 1)), some (.int (Int32.ofInt 9))] [.int (Int32.ofInt (s 22 7))] (zN L X (zhi s) R G nc ns) Q
  exact zW.jret rfl rfl hQ0
set_option maxHeartbeats 4000000 in
theorem t_S_ofSide_1_11 (S : zSR R) (V : zV g U F T B ph s)   (hQ0 : Q (.inl (some (.int (Int32.ofInt (s 22 9))))) (zN L X (zhi s) R G nc ns)) : zW ro 21 0 (zfst [.ref 6, .int (Int32.ofInt 1), .int (Int32.ofInt 11)] 3) [] (zN L X (zhi s) R G nc ns) Q := by
  show zW ro 21 0 [some (.ref 6), some (.int (Int32.ofInt 1)), some (.int (Int32.ofInt 11))] [] (zN L X (zhi s) R G nc ns) Q
  have f1 := zA_geo (zV_zA V)
  have hB0 := zV_B V
  refine zW.run 1 (pc' := 1) (ls' := [some (.ref 6), some (.int (Int32.ofInt 1)), some (.int (Int32.ofInt 11))]) (st' := [.int (Int32.ofInt 1)]) (σ' := (zN L X (zhi s) R G nc ns)) (fun n => rfl) ?_
  refine zW.callS rfl rfl rfl rfl rfl (Nat.le_of_ble_eq_true rfl) ?_
  refine t_S_isSide_1 S ?_
  show zW ro 21 4 [some (.ref 6), some (.int (Int32.ofInt 1)), some (.int (Int32.ofInt 11))] [.int (Int32.ofInt 1)] (zN L X (zhi s) R G nc ns) Q
  refine zW.run 9 (pc' := 31) (ls' := [some (.ref 6), some (.int (Int32.ofInt 1)), some (.int (Int32.ofInt 11))]) (st' := [.int (Int32.ofInt 11), .int (Int32.ofInt 1), .ref 6]) (σ' := (zN L X (zhi s) R G nc ns)) (fun n => rfl) ?_
  refine zW.callV rfl (by decide) rfl rfl rfl rfl rfl (Nat.le_of_ble_eq_true rfl) ?_
  refine t_S_sideFact_1_11 S V ?_
  show zW ro 21 34 [some (.ref 6), some (.int (Int32.ofInt 1)), some (.int (Int32.ofInt 11))] [.int (Int32.ofInt (s 22 9))] (zN L X (zhi s) R G nc ns) Q
  exact zW.jret rfl rfl hQ0
set_option maxHeartbeats 4000000 in
theorem t_S_ofSide_1_12 (S : zSR R) (V : zV g U F T B ph s)   (hQ0 : ∀ (v : Int), 0 ≤ v ∧ v ≤ 16 → v = zrg s 1 16 → Q (.inl (some (.int (Int32.ofInt v)))) (zN L X (zhi s) R G nc ns)) : zW ro 21 0 (zfst [.ref 6, .int (Int32.ofInt 1), .int (Int32.ofInt 12)] 3) [] (zN L X (zhi s) R G nc ns) Q := by
  show zW ro 21 0 [some (.ref 6), some (.int (Int32.ofInt 1)), some (.int (Int32.ofInt 12))] [] (zN L X (zhi s) R G nc ns) Q
  have f1 := zA_geo (zV_zA V)
  have hB0 := zV_B V
  refine zW.run 1 (pc' := 1) (ls' := [some (.ref 6), some (.int (Int32.ofInt 1)), some (.int (Int32.ofInt 12))]) (st' := [.int (Int32.ofInt 1)]) (σ' := (zN L X (zhi s) R G nc ns)) (fun n => rfl) ?_
  refine zW.callS rfl rfl rfl rfl rfl (Nat.le_of_ble_eq_true rfl) ?_
  refine t_S_isSide_1 S ?_
  show zW ro 21 4 [some (.ref 6), some (.int (Int32.ofInt 1)), some (.int (Int32.ofInt 12))] [.int (Int32.ofInt 1)] (zN L X (zhi s) R G nc ns) Q
  refine zW.run 9 (pc' := 31) (ls' := [some (.ref 6), some (.int (Int32.ofInt 1)), some (.int (Int32.ofInt 12))]) (st' := [.int (Int32.ofInt 12), .int (Int32.ofInt 1), .ref 6]) (σ' := (zN L X (zhi s) R G nc ns)) (fun n => rfl) ?_
  refine zW.callV rfl (by decide) rfl rfl rfl rfl rfl (Nat.le_of_ble_eq_true rfl) ?_
  refine t_S_sideFact_1_12 S V (fun v_2 f3 f4 => ?_)
  show zW ro 21 34 [some (.ref 6), some (.int (Int32.ofInt 1)), some (.int (Int32.ofInt 12))] [.int (Int32.ofInt v_2)] (zN L X (zhi s) R G nc ns) Q
  exact zW.jret rfl rfl (hQ0 v_2 (by omega) (by omega))
set_option maxHeartbeats 4000000 in
theorem t_S_ofSiege_0 (S : zSR R) (V : zV g U F T B ph s)   (hQ0 : Q (.inl (some (.int (Int32.ofInt (s 7 10))))) (zN L X (zhi s) R G nc ns)) : zW ro 22 0 (zfst [.ref 6, .int (Int32.ofInt 0)] 2) [] (zN L X (zhi s) R G nc ns) Q := by
  show zW ro 22 0 [some (.ref 6), some (.int (Int32.ofInt 0))] [] (zN L X (zhi s) R G nc ns) Q
  have f1 := zA_geo (zV_zA V)
  have hB0 := zV_B V
  refine zW.run 7 (pc' := 23) (ls' := [some (.ref 6), some (.int (Int32.ofInt 0))]) (st' := [.int (Int32.ofInt 0), .ref 6]) (σ' := (zN L X (zhi s) R G nc ns)) (fun n => rfl) ?_
  refine zW.callV rfl (by decide) rfl rfl rfl rfl rfl (Nat.le_of_ble_eq_true rfl) ?_
  refine t_S_siegeFact_0 S V ?_
  show zW ro 22 26 [some (.ref 6), some (.int (Int32.ofInt 0))] [.int (Int32.ofInt (s 7 10))] (zN L X (zhi s) R G nc ns) Q
  have f2 := zV_sie V
  exact zW.jret rfl rfl hQ0
set_option maxHeartbeats 4000000 in
theorem t_S_ofSiege_1 (S : zSR R) (V : zV g U F T B ph s)   (hQ0 : Q (.inl (some (.int (Int32.ofInt (s 7 11))))) (zN L X (zhi s) R G nc ns)) : zW ro 22 0 (zfst [.ref 6, .int (Int32.ofInt 1)] 2) [] (zN L X (zhi s) R G nc ns) Q := by
  show zW ro 22 0 [some (.ref 6), some (.int (Int32.ofInt 1))] [] (zN L X (zhi s) R G nc ns) Q
  have f1 := zA_geo (zV_zA V)
  have hB0 := zV_B V
  refine zW.run 7 (pc' := 23) (ls' := [some (.ref 6), some (.int (Int32.ofInt 1))]) (st' := [.int (Int32.ofInt 1), .ref 6]) (σ' := (zN L X (zhi s) R G nc ns)) (fun n => rfl) ?_
  refine zW.callV rfl (by decide) rfl rfl rfl rfl rfl (Nat.le_of_ble_eq_true rfl) ?_
  refine t_S_siegeFact_1 S V ?_
  show zW ro 22 26 [some (.ref 6), some (.int (Int32.ofInt 1))] [.int (Int32.ofInt (s 7 11))] (zN L X (zhi s) R G nc ns) Q
  have f2 := zV_sie V
  exact zW.jret rfl rfl hQ0
set_option maxHeartbeats 4000000 in
theorem t_S_ofSiege_2 (S : zSR R) (V : zV g U F T B ph s)   (hQ0 : Q (.inl (some (.int (Int32.ofInt (s 7 12))))) (zN L X (zhi s) R G nc ns)) : zW ro 22 0 (zfst [.ref 6, .int (Int32.ofInt 2)] 2) [] (zN L X (zhi s) R G nc ns) Q := by
  show zW ro 22 0 [some (.ref 6), some (.int (Int32.ofInt 2))] [] (zN L X (zhi s) R G nc ns) Q
  have f1 := zA_geo (zV_zA V)
  have hB0 := zV_B V
  refine zW.run 7 (pc' := 23) (ls' := [some (.ref 6), some (.int (Int32.ofInt 2))]) (st' := [.int (Int32.ofInt 2), .ref 6]) (σ' := (zN L X (zhi s) R G nc ns)) (fun n => rfl) ?_
  refine zW.callV rfl (by decide) rfl rfl rfl rfl rfl (Nat.le_of_ble_eq_true rfl) ?_
  refine t_S_siegeFact_2 S V ?_
  show zW ro 22 26 [some (.ref 6), some (.int (Int32.ofInt 2))] [.int (Int32.ofInt (s 7 12))] (zN L X (zhi s) R G nc ns) Q
  have f2 := zV_sie V
  exact zW.jret rfl rfl hQ0
set_option maxHeartbeats 4000000 in
theorem t_S_ofSiege_4 (S : zSR R) (V : zV g U F T B ph s)   (hQ0 : Q (.inl (some (.int (Int32.ofInt (s 7 13))))) (zN L X (zhi s) R G nc ns)) : zW ro 22 0 (zfst [.ref 6, .int (Int32.ofInt 4)] 2) [] (zN L X (zhi s) R G nc ns) Q := by
  show zW ro 22 0 [some (.ref 6), some (.int (Int32.ofInt 4))] [] (zN L X (zhi s) R G nc ns) Q
  have f1 := zA_geo (zV_zA V)
  have hB0 := zV_B V
  refine zW.run 7 (pc' := 23) (ls' := [some (.ref 6), some (.int (Int32.ofInt 4))]) (st' := [.int (Int32.ofInt 4), .ref 6]) (σ' := (zN L X (zhi s) R G nc ns)) (fun n => rfl) ?_
  refine zW.callV rfl (by decide) rfl rfl rfl rfl rfl (Nat.le_of_ble_eq_true rfl) ?_
  refine t_S_siegeFact_4 S V ?_
  show zW ro 22 26 [some (.ref 6), some (.int (Int32.ofInt 4))] [.int (Int32.ofInt (s 7 13))] (zN L X (zhi s) R G nc ns) Q
  have f2 := zV_sie V
  exact zW.jret rfl rfl hQ0
set_option maxHeartbeats 4000000 in
theorem t_S_ofSiege_5 (S : zSR R) (V : zV g U F T B ph s)   (hQ0 : Q (.inl (some (.int (Int32.ofInt (s 7 14))))) (zN L X (zhi s) R G nc ns)) : zW ro 22 0 (zfst [.ref 6, .int (Int32.ofInt 5)] 2) [] (zN L X (zhi s) R G nc ns) Q := by
  show zW ro 22 0 [some (.ref 6), some (.int (Int32.ofInt 5))] [] (zN L X (zhi s) R G nc ns) Q
  have f1 := zA_geo (zV_zA V)
  have hB0 := zV_B V
  refine zW.run 7 (pc' := 23) (ls' := [some (.ref 6), some (.int (Int32.ofInt 5))]) (st' := [.int (Int32.ofInt 5), .ref 6]) (σ' := (zN L X (zhi s) R G nc ns)) (fun n => rfl) ?_
  refine zW.callV rfl (by decide) rfl rfl rfl rfl rfl (Nat.le_of_ble_eq_true rfl) ?_
  refine t_S_siegeFact_5 S V ?_
  show zW ro 22 26 [some (.ref 6), some (.int (Int32.ofInt 5))] [.int (Int32.ofInt (s 7 14))] (zN L X (zhi s) R G nc ns) Q
  have f2 := zV_sie V
  exact zW.jret rfl rfl hQ0
set_option maxHeartbeats 4000000 in
theorem t_S_ofSiege_12 (S : zSR R) (V : zV g U F T B ph s)   (hQ0 : Q (.inl (some (.int (Int32.ofInt (s 7 9))))) (zN L X (zhi s) R G nc ns)) : zW ro 22 0 (zfst [.ref 6, .int (Int32.ofInt 12)] 2) [] (zN L X (zhi s) R G nc ns) Q := by
  show zW ro 22 0 [some (.ref 6), some (.int (Int32.ofInt 12))] [] (zN L X (zhi s) R G nc ns) Q
  have f1 := zA_geo (zV_zA V)
  have hB0 := zV_B V
  refine zW.run 7 (pc' := 23) (ls' := [some (.ref 6), some (.int (Int32.ofInt 12))]) (st' := [.int (Int32.ofInt 12), .ref 6]) (σ' := (zN L X (zhi s) R G nc ns)) (fun n => rfl) ?_
  refine zW.callV rfl (by decide) rfl rfl rfl rfl rfl (Nat.le_of_ble_eq_true rfl) ?_
  refine t_S_siegeFact_12 S V ?_
  show zW ro 22 26 [some (.ref 6), some (.int (Int32.ofInt 12))] [.int (Int32.ofInt (s 7 9))] (zN L X (zhi s) R G nc ns) Q
  have f2 := zV_sie V
  exact zW.jret rfl rfl hQ0
set_option maxHeartbeats 4000000 in
theorem t_S_ofSiege_3 (S : zSR R) (V : zV g U F T B ph s)   (hQ0 : ∀ (v : Int), 0 ≤ v ∧ v ≤ 5 → ((v = 3 ∨ v = 4) → 0 < zcn s 6 (g 2).toNat) → (0 < zcn s 6 (g 2).toNat → 3 ≤ v) → Q (.inl (some (.int (Int32.ofInt v)))) (zN L X (zhi s) R G nc ns)) : zW ro 22 0 (zfst [.ref 6, .int (Int32.ofInt 3)] 2) [] (zN L X (zhi s) R G nc ns) Q := by
  show zW ro 22 0 [some (.ref 6), some (.int (Int32.ofInt 3))] [] (zN L X (zhi s) R G nc ns) Q
  have f1 := zA_geo (zV_zA V)
  have hB0 := zV_B V
  refine zW.run 7 (pc' := 23) (ls' := [some (.ref 6), some (.int (Int32.ofInt 3))]) (st' := [.int (Int32.ofInt 3), .ref 6]) (σ' := (zN L X (zhi s) R G nc ns)) (fun n => rfl) ?_
  refine zW.callV rfl (by decide) rfl rfl rfl rfl rfl (Nat.le_of_ble_eq_true rfl) ?_
  refine t_S_siegeFact_3 S V (fun v_2 f3 f4 f5 => ?_)
  show zW ro 22 26 [some (.ref 6), some (.int (Int32.ofInt 3))] [.int (Int32.ofInt v_2)] (zN L X (zhi s) R G nc ns) Q
  exact zW.jret rfl rfl (hQ0 v_2 (by omega) (by omega) (by omega))
set_option maxHeartbeats 4000000 in
theorem t_S_ofSiege_10 (S : zSR R) (V : zV g U F T B ph s)   (hQ0 : ∀ (v : Int), 0 ≤ v ∧ v ≤ 144 → v = zcn s 6 (g 2).toNat → Q (.inl (some (.int (Int32.ofInt v)))) (zN L X (zhi s) R G nc ns)) : zW ro 22 0 (zfst [.ref 6, .int (Int32.ofInt 10)] 2) [] (zN L X (zhi s) R G nc ns) Q := by
  show zW ro 22 0 [some (.ref 6), some (.int (Int32.ofInt 10))] [] (zN L X (zhi s) R G nc ns) Q
  have f1 := zA_geo (zV_zA V)
  have hB0 := zV_B V
  refine zW.run 7 (pc' := 23) (ls' := [some (.ref 6), some (.int (Int32.ofInt 10))]) (st' := [.int (Int32.ofInt 10), .ref 6]) (σ' := (zN L X (zhi s) R G nc ns)) (fun n => rfl) ?_
  refine zW.callV rfl (by decide) rfl rfl rfl rfl rfl (Nat.le_of_ble_eq_true rfl) ?_
  refine t_S_siegeFact_10 S V (fun v_2 f3 f4 => ?_)
  show zW ro 22 26 [some (.ref 6), some (.int (Int32.ofInt 10))] [.int (Int32.ofInt v_2)] (zN L X (zhi s) R G nc ns) Q
  exact zW.jret rfl rfl (hQ0 v_2 (by omega) (by omega))
set_option maxHeartbeats 4000000 in
theorem t_S_ofSiege_11 (S : zSR R) (V : zV g U F T B ph s)   (hQ0 : ∀ (v : Int), 0 ≤ v ∧ v ≤ 144 → v = zcn s 5 (g 2).toNat → Q (.inl (some (.int (Int32.ofInt v)))) (zN L X (zhi s) R G nc ns)) : zW ro 22 0 (zfst [.ref 6, .int (Int32.ofInt 11)] 2) [] (zN L X (zhi s) R G nc ns) Q := by
  show zW ro 22 0 [some (.ref 6), some (.int (Int32.ofInt 11))] [] (zN L X (zhi s) R G nc ns) Q
  have f1 := zA_geo (zV_zA V)
  have hB0 := zV_B V
  refine zW.run 7 (pc' := 23) (ls' := [some (.ref 6), some (.int (Int32.ofInt 11))]) (st' := [.int (Int32.ofInt 11), .ref 6]) (σ' := (zN L X (zhi s) R G nc ns)) (fun n => rfl) ?_
  refine zW.callV rfl (by decide) rfl rfl rfl rfl rfl (Nat.le_of_ble_eq_true rfl) ?_
  refine t_S_siegeFact_11 S V (fun v_2 f3 f4 => ?_)
  show zW ro 22 26 [some (.ref 6), some (.int (Int32.ofInt 11))] [.int (Int32.ofInt v_2)] (zN L X (zhi s) R G nc ns) Q
  exact zW.jret rfl rfl (hQ0 v_2 (by omega) (by omega))
set_option maxHeartbeats 4000000 in
theorem t_S_sees (S : zSR R) (V : zV g U F T B ph s) {x : Int} {y : Int} (p0 : 0 ≤ x ∧ x < g 2) (p1 : 0 ≤ y ∧ y < g 2) (hQ0 : Q (.inl (some (.int (Int32.ofInt 1)))) (zN L X (zhi s) R G nc ns)) (hQ1 : ¬ x = y → Q (.inl (some (.int (Int32.ofInt 0)))) (zN L X (zhi s) R G nc ns)) : zW ro 27 0 (zfst [.ref 6, .int (Int32.ofInt x), .int (Int32.ofInt y)] 3) [] (zN L X (zhi s) R G nc ns) Q := by
  show zW ro 27 0 [some (.ref 6), some (.int (Int32.ofInt x)), some (.int (Int32.ofInt y))] [] (zN L X (zhi s) R G nc ns) Q
  have f1 := zA_geo (zV_zA V)
  have hB0 := zV_B V
  refine zW.run 1 (pc' := 1) (ls' := [some (.ref 6), some (.int (Int32.ofInt x)), some (.int (Int32.ofInt y))]) (st' := [.ref 6]) (σ' := (zN L X (zhi s) R G nc ns)) (fun n => rfl) ?_
  refine zW.getf (v := .ref 7) rfl rfl (zr_6_0 S) ?_
  refine zW.getf (v := .ref 8) rfl rfl (zr_7_0 S) ?_
  refine zW.run 1 (pc' := 8) (ls' := [some (.ref 6), some (.int (Int32.ofInt x)), some (.int (Int32.ofInt y))]) (st' := [.int (Int32.ofInt x), .ref 8]) (σ' := (zN L X (zhi s) R G nc ns)) (fun n => rfl) ?_
  refine zW.callV rfl (by decide) rfl rfl rfl rfl rfl (Nat.le_of_ble_eq_true rfl) ?_
  refine t_Ground_isOn S (zV_zA V) (x := x) (by omega) (fun f2 f3 => ?_) (fun f4 => ?_)
  · skip
    show zW ro 27 11 [some (.ref 6), some (.int (Int32.ofInt x)), some (.int (Int32.ofInt y))] [.int (Int32.ofInt 1)] (zN L X (zhi s) R G nc ns) Q
    refine zW.run 2 (pc' := 15) (ls' := [some (.ref 6), some (.int (Int32.ofInt x)), some (.int (Int32.ofInt y))]) (st' := [.ref 6]) (σ' := (zN L X (zhi s) R G nc ns)) (fun n => rfl) ?_
    refine zW.getf (v := .ref 7) rfl rfl (zr_6_0 S) ?_
    refine zW.getf (v := .ref 8) rfl rfl (zr_7_0 S) ?_
    refine zW.run 1 (pc' := 22) (ls' := [some (.ref 6), some (.int (Int32.ofInt x)), some (.int (Int32.ofInt y))]) (st' := [.int (Int32.ofInt y), .ref 8]) (σ' := (zN L X (zhi s) R G nc ns)) (fun n => rfl) ?_
    refine zW.callV rfl (by decide) rfl rfl rfl rfl rfl (Nat.le_of_ble_eq_true rfl) ?_
    refine t_Ground_isOn S (zV_zA V) (x := y) (by omega) (fun f5 f6 => ?_) (fun f7 => ?_)
    · skip
      show zW ro 27 25 [some (.ref 6), some (.int (Int32.ofInt x)), some (.int (Int32.ofInt y))] [.int (Int32.ofInt 1)] (zN L X (zhi s) R G nc ns) Q
      refine zW.run 2 (pc' := 39) (ls' := [some (.ref 6), some (.int (Int32.ofInt x)), some (.int (Int32.ofInt y))]) (st' := [.ref 6]) (σ' := (zN L X (zhi s) R G nc ns)) (fun n => rfl) ?_
      refine zW.getf (v := .ref 7) rfl rfl (zr_6_0 S) ?_
      refine zW.getf (v := .ref 8) rfl rfl (zr_7_0 S) ?_
      refine zW.run 3 (pc' := 48) (ls' := [some (.ref 6), some (.int (Int32.ofInt x)), some (.int (Int32.ofInt y))]) (st' := [.ref 6, .int (Int32.ofInt y), .int (Int32.ofInt x), .ref 8]) (σ' := (zN L X (zhi s) R G nc ns)) (fun n => rfl) ?_
      refine zW.getf (v := .ref 7) rfl rfl (zr_6_0 S) ?_
      refine zW.callV rfl (by decide) rfl rfl rfl rfl rfl (Nat.le_of_ble_eq_true rfl) ?_
      refine t_Siege_sightFar S V (fun v_8 f9 => ?_)
      show zW ro 27 54 [some (.ref 6), some (.int (Int32.ofInt x)), some (.int (Int32.ofInt y))] [.int (Int32.ofInt v_8), .int (Int32.ofInt y), .int (Int32.ofInt x), .ref 8] (zN L X (zhi s) R G nc ns) Q
      refine zW.callV rfl (by decide) rfl rfl rfl rfl rfl (Nat.le_of_ble_eq_true rfl) ?_
      refine t_Ground_isSeen S V (a := x) (b := y) (d := v_8) (by omega) (by omega) (by omega) ?_ (fun f10 => ?_)
      · skip
        show zW ro 27 57 [some (.ref 6), some (.int (Int32.ofInt x)), some (.int (Int32.ofInt y))] [.int (Int32.ofInt 1)] (zN L X (zhi s) R G nc ns) Q
        exact zW.jretb rfl rfl (by decide) hQ0
      · skip
        show zW ro 27 57 [some (.ref 6), some (.int (Int32.ofInt x)), some (.int (Int32.ofInt y))] [.int (Int32.ofInt 0)] (zN L X (zhi s) R G nc ns) Q
        exact zW.jretb rfl rfl (by decide) (hQ1 (by omega))
    · skip
      show zW ro 27 25 [some (.ref 6), some (.int (Int32.ofInt x)), some (.int (Int32.ofInt y))] [.int (Int32.ofInt 0)] (zN L X (zhi s) R G nc ns) Q
      refine zW.run 1 (pc' := 28) (ls' := [some (.ref 6), some (.int (Int32.ofInt x)), some (.int (Int32.ofInt y))]) (st' := []) (σ' := (zN L X (zhi s) R G nc ns)) (fun n => rfl) ?_
      exfalso
      omega
  · skip
    show zW ro 27 11 [some (.ref 6), some (.int (Int32.ofInt x)), some (.int (Int32.ofInt y))] [.int (Int32.ofInt 0)] (zN L X (zhi s) R G nc ns) Q
    refine zW.run 1 (pc' := 28) (ls' := [some (.ref 6), some (.int (Int32.ofInt x)), some (.int (Int32.ofInt y))]) (st' := []) (σ' := (zN L X (zhi s) R G nc ns)) (fun n => rfl) ?_
    exfalso
    omega
set_option maxHeartbeats 4000000 in
theorem t_S_target (S : zSR R) (V : zV g U F T B ph s) {i : Nat} (p0 : i < 6) (hQ0 : ∀ (v : Int), -1 ≤ v ∧ v < g 2 → Q (.inl (some (.int (Int32.ofInt v)))) (zN L X (zhi s) R G nc ns)) : zW ro 31 0 (zfst [.ref 6, .int (Int32.ofInt (i : Int))] 3) [] (zN L X (zhi s) R G nc ns) Q := by
  show zW ro 31 0 [some (.ref 6), some (.int (Int32.ofInt (i : Int))), none] [] (zN L X (zhi s) R G nc ns) Q
  have f1 := zA_geo (zV_zA V)
  have hB0 := zV_B V
  refine zW.run 1 (pc' := 1) (ls' := [some (.ref 6), some (.int (Int32.ofInt (i : Int))), none]) (st' := [.ref 6]) (σ' := (zN L X (zhi s) R G nc ns)) (fun n => rfl) ?_
  refine zW.getf (v := .ref 7) rfl rfl (zr_6_0 S) ?_
  refine zW.run 1 (pc' := 5) (ls' := [some (.ref 6), some (.int (Int32.ofInt (i : Int))), none]) (st' := [.int (Int32.ofInt (i : Int)), .ref 7]) (σ' := (zN L X (zhi s) R G nc ns)) (fun n => rfl) ?_
  refine zW.callV rfl (by decide) rfl rfl rfl rfl rfl (Nat.le_of_ble_eq_true rfl) ?_
  refine t_Siege_gunAt S V (i := i) (by omega) ?_
  show zW ro 31 8 [some (.ref 6), some (.int (Int32.ofInt (i : Int))), none] [.ref (26 + i)] (zN L X (zhi s) R G nc ns) Q
  refine zW.run 4 (pc' := 24) (ls' := [some (.ref 6), some (.int (Int32.ofInt (i : Int))), some (.ref (26 + i))]) (st' := [.ref (26 + i)]) (σ' := (zN L X (zhi s) R G nc ns)) (fun n => rfl) ?_
  have f2 := zV_gun V (i := i) (by omega)
  refine zW.jget (v := (s (26 + i) 5)) rfl (zk_gun (by omega)) (fun _ _ _ => rfl) rfl ?_
  refine zW.jif_ne rfl (by omega) (fun c3 => ?_) (fun c3 => ?_)
  · skip
    refine zW.run 1 (pc' := 42) (ls' := [some (.ref 6), some (.int (Int32.ofInt (i : Int))), some (.ref (26 + i))]) (st' := [.int (Int32.ofInt (-1))]) (σ' := (zN L X (zhi s) R G nc ns)) (fun n => rfl) ?_
    exact zW.jret rfl rfl (hQ0 (-1) (by omega))
  · skip
    refine zW.run 1 (pc' := 31) (ls' := [some (.ref 6), some (.int (Int32.ofInt (i : Int))), some (.ref (26 + i))]) (st' := [.ref 6]) (σ' := (zN L X (zhi s) R G nc ns)) (fun n => rfl) ?_
    refine zW.getf (v := .ref 7) rfl rfl (zr_6_0 S) ?_
    refine zW.run 1 (pc' := 35) (ls' := [some (.ref 6), some (.int (Int32.ofInt (i : Int))), some (.ref (26 + i))]) (st' := [.ref (26 + i), .ref 7]) (σ' := (zN L X (zhi s) R G nc ns)) (fun n => rfl) ?_
    refine zW.callS rfl rfl rfl rfl rfl (Nat.le_of_ble_eq_true rfl) ?_
    refine t_Gunnery_bestTarget S V (i := i) (by omega) (fun v_4 f5 => ?_)
    show zW ro 31 38 [some (.ref 6), some (.int (Int32.ofInt (i : Int))), some (.ref (26 + i))] [.int (Int32.ofInt v_4)] (zN L X (zhi s) R G nc ns) Q
    refine zW.run 1 (pc' := 42) (ls' := [some (.ref 6), some (.int (Int32.ofInt (i : Int))), some (.ref (26 + i))]) (st' := [.int (Int32.ofInt v_4)]) (σ' := (zN L X (zhi s) R G nc ns)) (fun n => rfl) ?_
    exact zW.jret rfl rfl (hQ0 v_4 (by omega))
set_option maxHeartbeats 4000000 in
theorem t_S_isSound (S : zSR R) (V : zV g U F T B ph s)   (hQ0 : Q (.inl (some (.int (Int32.ofInt 1)))) (zN L X (zhi s) R G nc ns)) : zW ro 11 0 (zfst [.ref 6] 1) [] (zN L X (zhi s) R G nc ns) Q := by
  show zW ro 11 0 [some (.ref 6)] [] (zN L X (zhi s) R G nc ns) Q
  have f1 := zA_geo (zV_zA V)
  have hB0 := zV_B V
  refine zW.run 1 (pc' := 1) (ls' := [some (.ref 6)]) (st' := [.ref 6]) (σ' := (zN L X (zhi s) R G nc ns)) (fun n => rfl) ?_
  refine zW.getf (v := .ref 7) rfl rfl (zr_6_0 S) ?_
  refine zW.callV rfl (by decide) rfl rfl rfl rfl rfl (Nat.le_of_ble_eq_true rfl) ?_
  refine t_Siege_isAllSound S V ?_
  show zW ro 11 7 [some (.ref 6)] [.int (Int32.ofInt 1)] (zN L X (zhi s) R G nc ns) Q
  exact zW.jretb rfl rfl (by decide) hQ0
end ZB
