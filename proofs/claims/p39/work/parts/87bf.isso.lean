/-! a part of what must be so: s (printed by program) -/
section ZB
variable {ro : Nat → Int32 → zS → Option (zO × zS)} {L : Nat} {X : zK} {s : zJ} {R : Nat → Nat → Option Nat} {G : Nat → Nat → Int64} {nc ns : Nat} {Q : zO → zS → Prop} {g : Nat → Int} {U F T B ph : Int}
set_option maxRecDepth 20000 in
set_option maxHeartbeats 20000000 in
theorem t_L_isSo_s (S : zSR R) (V : zV g U F T B ph s) {n : Int} {w : Int} {a : Int} {b : Int} {P : Nat} {j6 : Option Value} {j7 : Option Value} {j8 : Option Value} (p0 : (zK0 L ++ X)[P]? = some (100, 2)) (p1 : 66 ≤ P ∧ g 8 ≤ (P : Int) ∧ 125 ≤ P) (p2 : s P 0 = zmm s 0 12) (p3 : s P 1 = zmm s 1 12) (hQ0 : ∀ (u6 : Option Value) (u7 : Option Value) (u8 : Option Value), zW zro 165 744 [some (.ref 6), some (.int (Int32.ofInt n)), some (.int (Int32.ofInt w)), some (.ref P), some (.int (Int32.ofInt a)), some (.int (Int32.ofInt b)), u6, u7, u8] [] (zN L X (zhi s) R G nc ns) Q) : zW zro 165 671 [some (.ref 6), some (.int (Int32.ofInt n)), some (.int (Int32.ofInt w)), some (.ref P), some (.int (Int32.ofInt a)), some (.int (Int32.ofInt b)), j6, j7, j8] [] (zN L X (zhi s) R G nc ns) Q := by
  have f1 := zA_geo (zV_zA V)
  have hB0 := zV_B V
  have hkP := p0
  refine zW.run 8 (pc' := 684) (ls' := [some (.ref 6), some (.int (Int32.ofInt n)), some (.int (Int32.ofInt w)), some (.ref P), some (.int (Int32.ofInt a)), some (.int (Int32.ofInt b)), some (.int (Int32.ofInt 0)), j7, j8]) (st' := [.int (Int32.ofInt 5), .int (Int32.ofInt 0), .ref 6]) (σ' := (zN L X (zhi s) R G nc ns)) (fun n => rfl) ?_
  refine zW.callV rfl (by decide) rfl rfl rfl rfl rfl (Nat.le_of_ble_eq_true rfl) ?_
  refine t_S_ofSide_0_5 S V (fun v_2 f3 f4 => ?_)
  show zW zro 165 687 [some (.ref 6), some (.int (Int32.ofInt n)), some (.int (Int32.ofInt w)), some (.ref P), some (.int (Int32.ofInt a)), some (.int (Int32.ofInt b)), some (.int (Int32.ofInt 0)), j7, j8] [.int (Int32.ofInt v_2)] (zN L X (zhi s) R G nc ns) Q
  refine zW.run 2 (pc' := 690) (ls' := [some (.ref 6), some (.int (Int32.ofInt n)), some (.int (Int32.ofInt w)), some (.ref P), some (.int (Int32.ofInt a)), some (.int (Int32.ofInt b)), some (.int (Int32.ofInt 0)), j7, j8]) (st' := [.int (Int32.ofInt 0), .ref P, .int (Int32.ofInt v_2)]) (σ' := (zN L X (zhi s) R G nc ns)) (fun n => rfl) ?_
  refine zW.jald (n := 2) (v := (s P 0)) rfl hkP (by decide) (by omega) rfl ?_
  refine zW.jcmp_ne rfl (by omega) (fun c5 => ?_) (fun c5 => ?_)
  · skip
    refine zW.run 1 (pc' := 737) (ls' := [some (.ref 6), some (.int (Int32.ofInt n)), some (.int (Int32.ofInt w)), some (.ref P), some (.int (Int32.ofInt a)), some (.int (Int32.ofInt b)), some (.int (Int32.ofInt 0)), j7, j8]) (st' := [.int (Int32.ofInt 0)]) (σ' := (zN L X (zhi s) R G nc ns)) (fun n => rfl) ?_
    exfalso
    omega
  · skip
    refine zW.run 3 (pc' := 698) (ls' := [some (.ref 6), some (.int (Int32.ofInt n)), some (.int (Int32.ofInt w)), some (.ref P), some (.int (Int32.ofInt a)), some (.int (Int32.ofInt b)), some (.int (Int32.ofInt 0)), j7, j8]) (st' := [.int (Int32.ofInt 3), .int (Int32.ofInt 0), .ref 6]) (σ' := (zN L X (zhi s) R G nc ns)) (fun n => rfl) ?_
    refine zW.callV rfl (by decide) rfl rfl rfl rfl rfl (Nat.le_of_ble_eq_true rfl) ?_
    refine t_S_ofSide_0_3 S V ?_
    show zW zro 165 701 [some (.ref 6), some (.int (Int32.ofInt n)), some (.int (Int32.ofInt w)), some (.ref P), some (.int (Int32.ofInt a)), some (.int (Int32.ofInt b)), some (.int (Int32.ofInt 0)), j7, j8] [.int (Int32.ofInt (s 21 3))] (zN L X (zhi s) R G nc ns) Q
    have f6 := zV_sid V (o := 21) (by omega)
    refine zW.jif_lt rfl (by omega) (fun c7 => ?_) (fun c7 => ?_)
    · skip
      refine zW.run 1 (pc' := 737) (ls' := [some (.ref 6), some (.int (Int32.ofInt n)), some (.int (Int32.ofInt w)), some (.ref P), some (.int (Int32.ofInt a)), some (.int (Int32.ofInt b)), some (.int (Int32.ofInt 0)), j7, j8]) (st' := [.int (Int32.ofInt 0)]) (σ' := (zN L X (zhi s) R G nc ns)) (fun n => rfl) ?_
      exfalso
      omega
    · skip
      refine zW.run 3 (pc' := 708) (ls' := [some (.ref 6), some (.int (Int32.ofInt n)), some (.int (Int32.ofInt w)), some (.ref P), some (.int (Int32.ofInt a)), some (.int (Int32.ofInt b)), some (.int (Int32.ofInt 0)), j7, j8]) (st' := [.int (Int32.ofInt 3), .int (Int32.ofInt 0), .ref 6]) (σ' := (zN L X (zhi s) R G nc ns)) (fun n => rfl) ?_
      refine zW.callV rfl (by decide) rfl rfl rfl rfl rfl (Nat.le_of_ble_eq_true rfl) ?_
      refine t_S_ofSide_0_3 S V ?_
      show zW zro 165 711 [some (.ref 6), some (.int (Int32.ofInt n)), some (.int (Int32.ofInt w)), some (.ref P), some (.int (Int32.ofInt a)), some (.int (Int32.ofInt b)), some (.int (Int32.ofInt 0)), j7, j8] [.int (Int32.ofInt (s 21 3))] (zN L X (zhi s) R G nc ns) Q
      refine zW.run 1 (pc' := 713) (ls' := [some (.ref 6), some (.int (Int32.ofInt n)), some (.int (Int32.ofInt w)), some (.ref P), some (.int (Int32.ofInt a)), some (.int (Int32.ofInt b)), some (.int (Int32.ofInt 0)), j7, j8]) (st' := [.int (Int32.ofInt 100), .int (Int32.ofInt (s 21 3))]) (σ' := (zN L X (zhi s) R G nc ns)) (fun n => rfl) ?_
      refine zW.jcmp_gt rfl (by omega) (fun c8 => ?_) (fun c8 => ?_)
      · skip
        refine zW.run 1 (pc' := 737) (ls' := [some (.ref 6), some (.int (Int32.ofInt n)), some (.int (Int32.ofInt w)), some (.ref P), some (.int (Int32.ofInt a)), some (.int (Int32.ofInt b)), some (.int (Int32.ofInt 0)), j7, j8]) (st' := [.int (Int32.ofInt 0)]) (σ' := (zN L X (zhi s) R G nc ns)) (fun n => rfl) ?_
        exfalso
        omega
      · skip
        refine zW.run 3 (pc' := 720) (ls' := [some (.ref 6), some (.int (Int32.ofInt n)), some (.int (Int32.ofInt w)), some (.ref P), some (.int (Int32.ofInt a)), some (.int (Int32.ofInt b)), some (.int (Int32.ofInt 0)), j7, j8]) (st' := [.int (Int32.ofInt 1), .int (Int32.ofInt 0), .ref 6]) (σ' := (zN L X (zhi s) R G nc ns)) (fun n => rfl) ?_
        refine zW.callV rfl (by decide) rfl rfl rfl rfl rfl (Nat.le_of_ble_eq_true rfl) ?_
        refine t_S_ofSide_0_1 S V ?_
        show zW zro 165 723 [some (.ref 6), some (.int (Int32.ofInt n)), some (.int (Int32.ofInt w)), some (.ref P), some (.int (Int32.ofInt a)), some (.int (Int32.ofInt b)), some (.int (Int32.ofInt 0)), j7, j8] [.int (Int32.ofInt (s 21 1))] (zN L X (zhi s) R G nc ns) Q
        refine zW.jif_lt rfl (by omega) (fun c9 => ?_) (fun c9 => ?_)
        · skip
          refine zW.run 1 (pc' := 737) (ls' := [some (.ref 6), some (.int (Int32.ofInt n)), some (.int (Int32.ofInt w)), some (.ref P), some (.int (Int32.ofInt a)), some (.int (Int32.ofInt b)), some (.int (Int32.ofInt 0)), j7, j8]) (st' := [.int (Int32.ofInt 0)]) (σ' := (zN L X (zhi s) R G nc ns)) (fun n => rfl) ?_
          exfalso
          omega
        · skip
          refine zW.run 3 (pc' := 730) (ls' := [some (.ref 6), some (.int (Int32.ofInt n)), some (.int (Int32.ofInt w)), some (.ref P), some (.int (Int32.ofInt a)), some (.int (Int32.ofInt b)), some (.int (Int32.ofInt 0)), j7, j8]) (st' := [.int (Int32.ofInt 2), .int (Int32.ofInt 0), .ref 6]) (σ' := (zN L X (zhi s) R G nc ns)) (fun n => rfl) ?_
          refine zW.callV rfl (by decide) rfl rfl rfl rfl rfl (Nat.le_of_ble_eq_true rfl) ?_
          refine t_S_ofSide_0_2 S V ?_
          show zW zro 165 733 [some (.ref 6), some (.int (Int32.ofInt n)), some (.int (Int32.ofInt w)), some (.ref P), some (.int (Int32.ofInt a)), some (.int (Int32.ofInt b)), some (.int (Int32.ofInt 0)), j7, j8] [.int (Int32.ofInt (s 21 2))] (zN L X (zhi s) R G nc ns) Q
          refine zW.jif_ge rfl (by omega) (fun c10 => ?_) (fun c10 => ?_)
          · skip
            refine zW.jinc (ls' := [some (.ref 6), some (.int (Int32.ofInt n)), some (.int (Int32.ofInt w)), some (.ref P), some (.int (Int32.ofInt a)), some (.int (Int32.ofInt b)), some (.int (Int32.ofInt 1)), j7, j8]) rfl (Nat.le_of_ble_eq_true rfl) rfl rfl ?_
            refine zW.run 7 (pc' := 684) (ls' := [some (.ref 6), some (.int (Int32.ofInt n)), some (.int (Int32.ofInt w)), some (.ref P), some (.int (Int32.ofInt a)), some (.int (Int32.ofInt b)), some (.int (Int32.ofInt 1)), j7, j8]) (st' := [.int (Int32.ofInt 5), .int (Int32.ofInt 1), .ref 6]) (σ' := (zN L X (zhi s) R G nc ns)) (fun n => rfl) ?_
            refine zW.callV rfl (by decide) rfl rfl rfl rfl rfl (Nat.le_of_ble_eq_true rfl) ?_
            refine t_S_ofSide_1_5 S V (fun v_11 f12 f13 => ?_)
            show zW zro 165 687 [some (.ref 6), some (.int (Int32.ofInt n)), some (.int (Int32.ofInt w)), some (.ref P), some (.int (Int32.ofInt a)), some (.int (Int32.ofInt b)), some (.int (Int32.ofInt 1)), j7, j8] [.int (Int32.ofInt v_11)] (zN L X (zhi s) R G nc ns) Q
            refine zW.run 2 (pc' := 690) (ls' := [some (.ref 6), some (.int (Int32.ofInt n)), some (.int (Int32.ofInt w)), some (.ref P), some (.int (Int32.ofInt a)), some (.int (Int32.ofInt b)), some (.int (Int32.ofInt 1)), j7, j8]) (st' := [.int (Int32.ofInt 1), .ref P, .int (Int32.ofInt v_11)]) (σ' := (zN L X (zhi s) R G nc ns)) (fun n => rfl) ?_
            refine zW.jald (n := 2) (v := (s P 1)) rfl hkP (by decide) (by omega) rfl ?_
            refine zW.jcmp_ne rfl (by omega) (fun c14 => ?_) (fun c14 => ?_)
            · skip
              refine zW.run 1 (pc' := 737) (ls' := [some (.ref 6), some (.int (Int32.ofInt n)), some (.int (Int32.ofInt w)), some (.ref P), some (.int (Int32.ofInt a)), some (.int (Int32.ofInt b)), some (.int (Int32.ofInt 1)), j7, j8]) (st' := [.int (Int32.ofInt 0)]) (σ' := (zN L X (zhi s) R G nc ns)) (fun n => rfl) ?_
              exfalso
              omega
            · skip
              refine zW.run 3 (pc' := 698) (ls' := [some (.ref 6), some (.int (Int32.ofInt n)), some (.int (Int32.ofInt w)), some (.ref P), some (.int (Int32.ofInt a)), some (.int (Int32.ofInt b)), some (.int (Int32.ofInt 1)), j7, j8]) (st' := [.int (Int32.ofInt 3), .int (Int32.ofInt 1), .ref 6]) (σ' := (zN L X (zhi s) R G nc ns)) (fun n => rfl) ?_
              refine zW.callV rfl (by decide) rfl rfl rfl rfl rfl (Nat.le_of_ble_eq_true rfl) ?_
              refine t_S_ofSide_1_3 S V ?_
              show zW zro 165 701 [some (.ref 6), some (.int (Int32.ofInt n)), some (.int (Int32.ofInt w)), some (.ref P), some (.int (Int32.ofInt a)), some (.int (Int32.ofInt b)), some (.int (Int32.ofInt 1)), j7, j8] [.int (Int32.ofInt (s 22 3))] (zN L X (zhi s) R G nc ns) Q
              have f15 := zV_sid V (o := 22) (by omega)
              refine zW.jif_lt rfl (by omega) (fun c16 => ?_) (fun c16 => ?_)
              · skip
                refine zW.run 1 (pc' := 737) (ls' := [some (.ref 6), some (.int (Int32.ofInt n)), some (.int (Int32.ofInt w)), some (.ref P), some (.int (Int32.ofInt a)), some (.int (Int32.ofInt b)), some (.int (Int32.ofInt 1)), j7, j8]) (st' := [.int (Int32.ofInt 0)]) (σ' := (zN L X (zhi s) R G nc ns)) (fun n => rfl) ?_
                exfalso
                omega
              · skip
                refine zW.run 3 (pc' := 708) (ls' := [some (.ref 6), some (.int (Int32.ofInt n)), some (.int (Int32.ofInt w)), some (.ref P), some (.int (Int32.ofInt a)), some (.int (Int32.ofInt b)), some (.int (Int32.ofInt 1)), j7, j8]) (st' := [.int (Int32.ofInt 3), .int (Int32.ofInt 1), .ref 6]) (σ' := (zN L X (zhi s) R G nc ns)) (fun n => rfl) ?_
                refine zW.callV rfl (by decide) rfl rfl rfl rfl rfl (Nat.le_of_ble_eq_true rfl) ?_
                refine t_S_ofSide_1_3 S V ?_
                show zW zro 165 711 [some (.ref 6), some (.int (Int32.ofInt n)), some (.int (Int32.ofInt w)), some (.ref P), some (.int (Int32.ofInt a)), some (.int (Int32.ofInt b)), some (.int (Int32.ofInt 1)), j7, j8] [.int (Int32.ofInt (s 22 3))] (zN L X (zhi s) R G nc ns) Q
                refine zW.run 1 (pc' := 713) (ls' := [some (.ref 6), some (.int (Int32.ofInt n)), some (.int (Int32.ofInt w)), some (.ref P), some (.int (Int32.ofInt a)), some (.int (Int32.ofInt b)), some (.int (Int32.ofInt 1)), j7, j8]) (st' := [.int (Int32.ofInt 100), .int (Int32.ofInt (s 22 3))]) (σ' := (zN L X (zhi s) R G nc ns)) (fun n => rfl) ?_
                refine zW.jcmp_gt rfl (by omega) (fun c17 => ?_) (fun c17 => ?_)
                · skip
                  refine zW.run 1 (pc' := 737) (ls' := [some (.ref 6), some (.int (Int32.ofInt n)), some (.int (Int32.ofInt w)), some (.ref P), some (.int (Int32.ofInt a)), some (.int (Int32.ofInt b)), some (.int (Int32.ofInt 1)), j7, j8]) (st' := [.int (Int32.ofInt 0)]) (σ' := (zN L X (zhi s) R G nc ns)) (fun n => rfl) ?_
                  exfalso
                  omega
                · skip
                  refine zW.run 3 (pc' := 720) (ls' := [some (.ref 6), some (.int (Int32.ofInt n)), some (.int (Int32.ofInt w)), some (.ref P), some (.int (Int32.ofInt a)), some (.int (Int32.ofInt b)), some (.int (Int32.ofInt 1)), j7, j8]) (st' := [.int (Int32.ofInt 1), .int (Int32.ofInt 1), .ref 6]) (σ' := (zN L X (zhi s) R G nc ns)) (fun n => rfl) ?_
                  refine zW.callV rfl (by decide) rfl rfl rfl rfl rfl (Nat.le_of_ble_eq_true rfl) ?_
                  refine t_S_ofSide_1_1 S V ?_
                  show zW zro 165 723 [some (.ref 6), some (.int (Int32.ofInt n)), some (.int (Int32.ofInt w)), some (.ref P), some (.int (Int32.ofInt a)), some (.int (Int32.ofInt b)), some (.int (Int32.ofInt 1)), j7, j8] [.int (Int32.ofInt (s 22 1))] (zN L X (zhi s) R G nc ns) Q
                  refine zW.jif_lt rfl (by omega) (fun c18 => ?_) (fun c18 => ?_)
                  · skip
                    refine zW.run 1 (pc' := 737) (ls' := [some (.ref 6), some (.int (Int32.ofInt n)), some (.int (Int32.ofInt w)), some (.ref P), some (.int (Int32.ofInt a)), some (.int (Int32.ofInt b)), some (.int (Int32.ofInt 1)), j7, j8]) (st' := [.int (Int32.ofInt 0)]) (σ' := (zN L X (zhi s) R G nc ns)) (fun n => rfl) ?_
                    exfalso
                    omega
                  · skip
                    refine zW.run 3 (pc' := 730) (ls' := [some (.ref 6), some (.int (Int32.ofInt n)), some (.int (Int32.ofInt w)), some (.ref P), some (.int (Int32.ofInt a)), some (.int (Int32.ofInt b)), some (.int (Int32.ofInt 1)), j7, j8]) (st' := [.int (Int32.ofInt 2), .int (Int32.ofInt 1), .ref 6]) (σ' := (zN L X (zhi s) R G nc ns)) (fun n => rfl) ?_
                    refine zW.callV rfl (by decide) rfl rfl rfl rfl rfl (Nat.le_of_ble_eq_true rfl) ?_
                    refine t_S_ofSide_1_2 S V ?_
                    show zW zro 165 733 [some (.ref 6), some (.int (Int32.ofInt n)), some (.int (Int32.ofInt w)), some (.ref P), some (.int (Int32.ofInt a)), some (.int (Int32.ofInt b)), some (.int (Int32.ofInt 1)), j7, j8] [.int (Int32.ofInt (s 22 2))] (zN L X (zhi s) R G nc ns) Q
                    refine zW.jif_ge rfl (by omega) (fun c19 => ?_) (fun c19 => ?_)
                    · skip
                      refine zW.jinc (ls' := [some (.ref 6), some (.int (Int32.ofInt n)), some (.int (Int32.ofInt w)), some (.ref P), some (.int (Int32.ofInt a)), some (.int (Int32.ofInt b)), some (.int (Int32.ofInt 2)), j7, j8]) rfl (Nat.le_of_ble_eq_true rfl) rfl rfl ?_
                      refine zW.run 4 (pc' := 744) (ls' := [some (.ref 6), some (.int (Int32.ofInt n)), some (.int (Int32.ofInt w)), some (.ref P), some (.int (Int32.ofInt a)), some (.int (Int32.ofInt b)), some (.int (Int32.ofInt 2)), j7, j8]) (st' := []) (σ' := (zN L X (zhi s) R G nc ns)) (fun n => rfl) ?_
                      exact (hQ0 (some (.int (Int32.ofInt 2))) j7 j8)
                    · skip
                      refine zW.run 1 (pc' := 737) (ls' := [some (.ref 6), some (.int (Int32.ofInt n)), some (.int (Int32.ofInt w)), some (.ref P), some (.int (Int32.ofInt a)), some (.int (Int32.ofInt b)), some (.int (Int32.ofInt 1)), j7, j8]) (st' := [.int (Int32.ofInt 0)]) (σ' := (zN L X (zhi s) R G nc ns)) (fun n => rfl) ?_
                      exfalso
                      omega
          · skip
            refine zW.run 1 (pc' := 737) (ls' := [some (.ref 6), some (.int (Int32.ofInt n)), some (.int (Int32.ofInt w)), some (.ref P), some (.int (Int32.ofInt a)), some (.int (Int32.ofInt b)), some (.int (Int32.ofInt 0)), j7, j8]) (st' := [.int (Int32.ofInt 0)]) (σ' := (zN L X (zhi s) R G nc ns)) (fun n => rfl) ?_
            exfalso
            omega
end ZB
