/-! a part of what must be so: u (printed by program) -/
section ZB
variable {ro : Nat → Int32 → zS → Option (zO × zS)} {L : Nat} {X : zK} {s : zJ} {R : Nat → Nat → Option Nat} {G : Nat → Nat → Int64} {nc ns : Nat} {Q : zO → zS → Prop} {g : Nat → Int} {U F T B ph : Int}
set_option maxRecDepth 20000 in
set_option maxHeartbeats 20000000 in
theorem t_L_isSo_u (S : zSR R) (V : zV g U F T B ph s) {n : Int} {w : Int} {a : Int} {b : Int} {i : Nat} {P : Nat} {j7 : Option Value} {j8 : Option Value} (p0 : i < 6) (p1 : 0 ≤ b ∧ b ≤ 100) (hQ0 : ∀ (b1 : Int) (u7 : Option Value) (u8 : Option Value), b1 = b + zrp s (i + 1) - zrp s i → b ≤ b1 ∧ b1 ≤ b + 1 → zW zro 165 571 [some (.ref 6), some (.int (Int32.ofInt n)), some (.int (Int32.ofInt w)), some (.ref P), some (.int (Int32.ofInt a)), some (.int (Int32.ofInt b1)), some (.int (Int32.ofInt (i : Int))), u7, u8] [] (zN L X (zhi s) R G nc ns) Q) : zW zro 165 454 [some (.ref 6), some (.int (Int32.ofInt n)), some (.int (Int32.ofInt w)), some (.ref P), some (.int (Int32.ofInt a)), some (.int (Int32.ofInt b)), some (.int (Int32.ofInt (i : Int))), j7, j8] [] (zN L X (zhi s) R G nc ns) Q := by
  have f1 := zA_geo (zV_zA V)
  have hB0 := zV_B V
  have hz := @zrp_s s i
  have g2 := zV_zG2 V i (by omega)
  refine zW.run 4 (pc' := 460) (ls' := [some (.ref 6), some (.int (Int32.ofInt n)), some (.int (Int32.ofInt w)), some (.ref P), some (.int (Int32.ofInt a)), some (.int (Int32.ofInt b)), some (.int (Int32.ofInt (i : Int))), j7, j8]) (st' := [.int (Int32.ofInt 5), .int (Int32.ofInt (i : Int)), .ref 6, .int (Int32.ofInt b)]) (σ' := (zN L X (zhi s) R G nc ns)) (fun n => rfl) ?_
  refine zW.callV rfl (by decide) rfl rfl rfl rfl rfl (Nat.le_of_ble_eq_true rfl) ?_
  refine t_S_ofGun_5 S V (i := i) (by omega) ?_
  show zW zro 165 463 [some (.ref 6), some (.int (Int32.ofInt n)), some (.int (Int32.ofInt w)), some (.ref P), some (.int (Int32.ofInt a)), some (.int (Int32.ofInt b)), some (.int (Int32.ofInt (i : Int))), j7, j8] [.int (Int32.ofInt (s (26 + i) 5)), .int (Int32.ofInt b)] (zN L X (zhi s) R G nc ns) Q
  have f2 := zV_gun V (i := i) (by omega)
  have J4 : ∀ (v3 : Int), (¬ (s (26 + i) 5) = 0 ∧ v3 = 0) ∨ ((s (26 + i) 5) = 0 ∧ v3 = 1) → zW zro 165 471 [some (.ref 6), some (.int (Int32.ofInt n)), some (.int (Int32.ofInt w)), some (.ref P), some (.int (Int32.ofInt a)), some (.int (Int32.ofInt b)), some (.int (Int32.ofInt (i : Int))), j7, j8] [.int (Int32.ofInt v3), .int (Int32.ofInt b)] (zN L X (zhi s) R G nc ns) Q := by
    intro v3 c5
    refine zW.jadd rfl ?_
    refine zW.run 4 (pc' := 478) (ls' := [some (.ref 6), some (.int (Int32.ofInt n)), some (.int (Int32.ofInt w)), some (.ref P), some (.int (Int32.ofInt a)), some (.int (Int32.ofInt (b + v3))), some (.int (Int32.ofInt (i : Int))), j7, j8]) (st' := [.int (Int32.ofInt 3), .int (Int32.ofInt (i : Int)), .ref 6]) (σ' := (zN L X (zhi s) R G nc ns)) (fun n => rfl) ?_
    refine zW.callV rfl (by decide) rfl rfl rfl rfl rfl (Nat.le_of_ble_eq_true rfl) ?_
    refine t_S_ofGun_3 S V (i := i) (by omega) ?_
    show zW zro 165 481 [some (.ref 6), some (.int (Int32.ofInt n)), some (.int (Int32.ofInt w)), some (.ref P), some (.int (Int32.ofInt a)), some (.int (Int32.ofInt (b + v3))), some (.int (Int32.ofInt (i : Int))), j7, j8] [.int (Int32.ofInt (s (26 + i) 3))] (zN L X (zhi s) R G nc ns) Q
    refine zW.jif_lt rfl (by omega) (fun c6 => ?_) (fun c6 => ?_)
    · skip
      refine zW.run 1 (pc' := 570) (ls' := [some (.ref 6), some (.int (Int32.ofInt n)), some (.int (Int32.ofInt w)), some (.ref P), some (.int (Int32.ofInt a)), some (.int (Int32.ofInt (b + v3))), some (.int (Int32.ofInt (i : Int))), j7, j8]) (st' := [.int (Int32.ofInt 0)]) (σ' := (zN L X (zhi s) R G nc ns)) (fun n => rfl) ?_
      exfalso
      omega
    · skip
      refine zW.run 3 (pc' := 488) (ls' := [some (.ref 6), some (.int (Int32.ofInt n)), some (.int (Int32.ofInt w)), some (.ref P), some (.int (Int32.ofInt a)), some (.int (Int32.ofInt (b + v3))), some (.int (Int32.ofInt (i : Int))), j7, j8]) (st' := [.int (Int32.ofInt 3), .int (Int32.ofInt (i : Int)), .ref 6]) (σ' := (zN L X (zhi s) R G nc ns)) (fun n => rfl) ?_
      refine zW.callV rfl (by decide) rfl rfl rfl rfl rfl (Nat.le_of_ble_eq_true rfl) ?_
      refine t_S_ofGun_3 S V (i := i) (by omega) ?_
      show zW zro 165 491 [some (.ref 6), some (.int (Int32.ofInt n)), some (.int (Int32.ofInt w)), some (.ref P), some (.int (Int32.ofInt a)), some (.int (Int32.ofInt (b + v3))), some (.int (Int32.ofInt (i : Int))), j7, j8] [.int (Int32.ofInt (s (26 + i) 3))] (zN L X (zhi s) R G nc ns) Q
      refine zW.run 1 (pc' := 492) (ls' := [some (.ref 6), some (.int (Int32.ofInt n)), some (.int (Int32.ofInt w)), some (.ref P), some (.int (Int32.ofInt a)), some (.int (Int32.ofInt (b + v3))), some (.int (Int32.ofInt (i : Int))), j7, j8]) (st' := [.int (Int32.ofInt 3), .int (Int32.ofInt (s (26 + i) 3))]) (σ' := (zN L X (zhi s) R G nc ns)) (fun n => rfl) ?_
      refine zW.jcmp_gt rfl (by omega) (fun c7 => ?_) (fun c7 => ?_)
      · skip
        refine zW.run 1 (pc' := 570) (ls' := [some (.ref 6), some (.int (Int32.ofInt n)), some (.int (Int32.ofInt w)), some (.ref P), some (.int (Int32.ofInt a)), some (.int (Int32.ofInt (b + v3))), some (.int (Int32.ofInt (i : Int))), j7, j8]) (st' := [.int (Int32.ofInt 0)]) (σ' := (zN L X (zhi s) R G nc ns)) (fun n => rfl) ?_
        exfalso
        omega
      · skip
        refine zW.run 3 (pc' := 499) (ls' := [some (.ref 6), some (.int (Int32.ofInt n)), some (.int (Int32.ofInt w)), some (.ref P), some (.int (Int32.ofInt a)), some (.int (Int32.ofInt (b + v3))), some (.int (Int32.ofInt (i : Int))), j7, j8]) (st' := [.int (Int32.ofInt 5), .int (Int32.ofInt (i : Int)), .ref 6]) (σ' := (zN L X (zhi s) R G nc ns)) (fun n => rfl) ?_
        refine zW.callV rfl (by decide) rfl rfl rfl rfl rfl (Nat.le_of_ble_eq_true rfl) ?_
        refine t_S_ofGun_5 S V (i := i) (by omega) ?_
        show zW zro 165 502 [some (.ref 6), some (.int (Int32.ofInt n)), some (.int (Int32.ofInt w)), some (.ref P), some (.int (Int32.ofInt a)), some (.int (Int32.ofInt (b + v3))), some (.int (Int32.ofInt (i : Int))), j7, j8] [.int (Int32.ofInt (s (26 + i) 5))] (zN L X (zhi s) R G nc ns) Q
        refine zW.jif_ne rfl (by omega) (fun c8 => ?_) (fun c8 => ?_)
        · skip
          refine zW.run 3 (pc' := 522) (ls' := [some (.ref 6), some (.int (Int32.ofInt n)), some (.int (Int32.ofInt w)), some (.ref P), some (.int (Int32.ofInt a)), some (.int (Int32.ofInt (b + v3))), some (.int (Int32.ofInt (i : Int))), j7, j8]) (st' := [.int (Int32.ofInt 7), .int (Int32.ofInt (i : Int)), .ref 6]) (σ' := (zN L X (zhi s) R G nc ns)) (fun n => rfl) ?_
          refine zW.callV rfl (by decide) rfl rfl rfl rfl rfl (Nat.le_of_ble_eq_true rfl) ?_
          refine t_S_ofGun_7 S V (i := i) (by omega) (fun v_9 f10 f11 f12 f13 => ?_)
          show zW zro 165 525 [some (.ref 6), some (.int (Int32.ofInt n)), some (.int (Int32.ofInt w)), some (.ref P), some (.int (Int32.ofInt a)), some (.int (Int32.ofInt (b + v3))), some (.int (Int32.ofInt (i : Int))), j7, j8] [.int (Int32.ofInt v_9)] (zN L X (zhi s) R G nc ns) Q
          refine zW.run 4 (pc' := 530) (ls' := [some (.ref 6), some (.int (Int32.ofInt n)), some (.int (Int32.ofInt w)), some (.ref P), some (.int (Int32.ofInt a)), some (.int (Int32.ofInt (b + v3))), some (.int (Int32.ofInt (i : Int))), j7, j8]) (st' := [.int (Int32.ofInt 3), .int (Int32.ofInt (i : Int)), .ref 6, .int (Int32.ofInt 4), .int (Int32.ofInt v_9)]) (σ' := (zN L X (zhi s) R G nc ns)) (fun n => rfl) ?_
          refine zW.callV rfl (by decide) rfl rfl rfl rfl rfl (Nat.le_of_ble_eq_true rfl) ?_
          refine t_S_ofGun_3 S V (i := i) (by omega) ?_
          show zW zro 165 533 [some (.ref 6), some (.int (Int32.ofInt n)), some (.int (Int32.ofInt w)), some (.ref P), some (.int (Int32.ofInt a)), some (.int (Int32.ofInt (b + v3))), some (.int (Int32.ofInt (i : Int))), j7, j8] [.int (Int32.ofInt (s (26 + i) 3)), .int (Int32.ofInt 4), .int (Int32.ofInt v_9)] (zN L X (zhi s) R G nc ns) Q
          refine zW.jsub rfl ?_
          refine zW.jcmp_gt rfl (by omega) (fun c14 => ?_) (fun c14 => ?_)
          · skip
            refine zW.run 1 (pc' := 570) (ls' := [some (.ref 6), some (.int (Int32.ofInt n)), some (.int (Int32.ofInt w)), some (.ref P), some (.int (Int32.ofInt a)), some (.int (Int32.ofInt (b + v3))), some (.int (Int32.ofInt (i : Int))), j7, j8]) (st' := [.int (Int32.ofInt 0)]) (σ' := (zN L X (zhi s) R G nc ns)) (fun n => rfl) ?_
            exfalso
            omega
          · skip
            refine zW.run 3 (pc' := 542) (ls' := [some (.ref 6), some (.int (Int32.ofInt n)), some (.int (Int32.ofInt w)), some (.ref P), some (.int (Int32.ofInt a)), some (.int (Int32.ofInt (b + v3))), some (.int (Int32.ofInt (i : Int))), j7, j8]) (st' := [.int (Int32.ofInt 7), .int (Int32.ofInt (i : Int)), .ref 6]) (σ' := (zN L X (zhi s) R G nc ns)) (fun n => rfl) ?_
            refine zW.callV rfl (by decide) rfl rfl rfl rfl rfl (Nat.le_of_ble_eq_true rfl) ?_
            refine t_S_ofGun_7 S V (i := i) (by omega) (fun v_15 f16 f17 f18 f19 => ?_)
            show zW zro 165 545 [some (.ref 6), some (.int (Int32.ofInt n)), some (.int (Int32.ofInt w)), some (.ref P), some (.int (Int32.ofInt a)), some (.int (Int32.ofInt (b + v3))), some (.int (Int32.ofInt (i : Int))), j7, j8] [.int (Int32.ofInt v_15)] (zN L X (zhi s) R G nc ns) Q
            refine zW.jif_le rfl (by omega) (fun c20 => ?_) (fun c20 => ?_)
            · skip
              exact (hQ0 (b + v3) j7 j8 (by omega) (by omega))
            · skip
              refine zW.run 3 (pc' := 552) (ls' := [some (.ref 6), some (.int (Int32.ofInt n)), some (.int (Int32.ofInt w)), some (.ref P), some (.int (Int32.ofInt a)), some (.int (Int32.ofInt (b + v3))), some (.int (Int32.ofInt (i : Int))), j7, j8]) (st' := [.int (Int32.ofInt 5), .int (Int32.ofInt (i : Int)), .ref 6]) (σ' := (zN L X (zhi s) R G nc ns)) (fun n => rfl) ?_
              refine zW.callV rfl (by decide) rfl rfl rfl rfl rfl (Nat.le_of_ble_eq_true rfl) ?_
              refine t_S_ofGun_5 S V (i := i) (by omega) ?_
              show zW zro 165 555 [some (.ref 6), some (.int (Int32.ofInt n)), some (.int (Int32.ofInt w)), some (.ref P), some (.int (Int32.ofInt a)), some (.int (Int32.ofInt (b + v3))), some (.int (Int32.ofInt (i : Int))), j7, j8] [.int (Int32.ofInt (s (26 + i) 5))] (zN L X (zhi s) R G nc ns) Q
              refine zW.jif_gt rfl (by omega) (fun c21 => ?_) (fun c21 => ?_)
              · skip
                refine zW.run 1 (pc' := 570) (ls' := [some (.ref 6), some (.int (Int32.ofInt n)), some (.int (Int32.ofInt w)), some (.ref P), some (.int (Int32.ofInt a)), some (.int (Int32.ofInt (b + v3))), some (.int (Int32.ofInt (i : Int))), j7, j8]) (st' := [.int (Int32.ofInt 0)]) (σ' := (zN L X (zhi s) R G nc ns)) (fun n => rfl) ?_
                exfalso
                omega
              · skip
                refine zW.run 3 (pc' := 563) (ls' := [some (.ref 6), some (.int (Int32.ofInt n)), some (.int (Int32.ofInt w)), some (.ref P), some (.int (Int32.ofInt a)), some (.int (Int32.ofInt (b + v3))), some (.int (Int32.ofInt (i : Int))), j7, j8]) (st' := [.int (Int32.ofInt 6), .int (Int32.ofInt (i : Int)), .ref 6]) (σ' := (zN L X (zhi s) R G nc ns)) (fun n => rfl) ?_
                refine zW.callV rfl (by decide) rfl rfl rfl rfl rfl (Nat.le_of_ble_eq_true rfl) ?_
                refine t_S_ofGun_6 S V (i := i) (by omega) ?_
                show zW zro 165 566 [some (.ref 6), some (.int (Int32.ofInt n)), some (.int (Int32.ofInt w)), some (.ref P), some (.int (Int32.ofInt a)), some (.int (Int32.ofInt (b + v3))), some (.int (Int32.ofInt (i : Int))), j7, j8] [.int (Int32.ofInt (s (26 + i) 6))] (zN L X (zhi s) R G nc ns) Q
                refine zW.jif_ge rfl (by omega) (fun c22 => ?_) (fun c22 => ?_)
                · skip
                  exact (hQ0 (b + v3) j7 j8 (by omega) (by omega))
                · skip
                  refine zW.run 1 (pc' := 570) (ls' := [some (.ref 6), some (.int (Int32.ofInt n)), some (.int (Int32.ofInt w)), some (.ref P), some (.int (Int32.ofInt a)), some (.int (Int32.ofInt (b + v3))), some (.int (Int32.ofInt (i : Int))), j7, j8]) (st' := [.int (Int32.ofInt 0)]) (σ' := (zN L X (zhi s) R G nc ns)) (fun n => rfl) ?_
                  exfalso
                  omega
        · skip
          refine zW.run 3 (pc' := 509) (ls' := [some (.ref 6), some (.int (Int32.ofInt n)), some (.int (Int32.ofInt w)), some (.ref P), some (.int (Int32.ofInt a)), some (.int (Int32.ofInt (b + v3))), some (.int (Int32.ofInt (i : Int))), j7, j8]) (st' := [.int (Int32.ofInt 4), .int (Int32.ofInt (i : Int)), .ref 6]) (σ' := (zN L X (zhi s) R G nc ns)) (fun n => rfl) ?_
          refine zW.callV rfl (by decide) rfl rfl rfl rfl rfl (Nat.le_of_ble_eq_true rfl) ?_
          refine t_S_ofGun_4 S V (i := i) (by omega) ?_
          show zW zro 165 512 [some (.ref 6), some (.int (Int32.ofInt n)), some (.int (Int32.ofInt w)), some (.ref P), some (.int (Int32.ofInt a)), some (.int (Int32.ofInt (b + v3))), some (.int (Int32.ofInt (i : Int))), j7, j8] [.int (Int32.ofInt (s (26 + i) 4))] (zN L X (zhi s) R G nc ns) Q
          refine zW.run 1 (pc' := 514) (ls' := [some (.ref 6), some (.int (Int32.ofInt n)), some (.int (Int32.ofInt w)), some (.ref P), some (.int (Int32.ofInt a)), some (.int (Int32.ofInt (b + v3))), some (.int (Int32.ofInt (i : Int))), j7, j8]) (st' := [.int (Int32.ofInt 9), .int (Int32.ofInt (s (26 + i) 4))]) (σ' := (zN L X (zhi s) R G nc ns)) (fun n => rfl) ?_
          refine zW.jcmp_gt rfl (by omega) (fun c23 => ?_) (fun c23 => ?_)
          · skip
            refine zW.run 1 (pc' := 570) (ls' := [some (.ref 6), some (.int (Int32.ofInt n)), some (.int (Int32.ofInt w)), some (.ref P), some (.int (Int32.ofInt a)), some (.int (Int32.ofInt (b + v3))), some (.int (Int32.ofInt (i : Int))), j7, j8]) (st' := [.int (Int32.ofInt 0)]) (σ' := (zN L X (zhi s) R G nc ns)) (fun n => rfl) ?_
            exfalso
            omega
          · skip
            refine zW.run 3 (pc' := 522) (ls' := [some (.ref 6), some (.int (Int32.ofInt n)), some (.int (Int32.ofInt w)), some (.ref P), some (.int (Int32.ofInt a)), some (.int (Int32.ofInt (b + v3))), some (.int (Int32.ofInt (i : Int))), j7, j8]) (st' := [.int (Int32.ofInt 7), .int (Int32.ofInt (i : Int)), .ref 6]) (σ' := (zN L X (zhi s) R G nc ns)) (fun n => rfl) ?_
            refine zW.callV rfl (by decide) rfl rfl rfl rfl rfl (Nat.le_of_ble_eq_true rfl) ?_
            refine t_S_ofGun_7 S V (i := i) (by omega) (fun v_24 f25 f26 f27 f28 => ?_)
            show zW zro 165 525 [some (.ref 6), some (.int (Int32.ofInt n)), some (.int (Int32.ofInt w)), some (.ref P), some (.int (Int32.ofInt a)), some (.int (Int32.ofInt (b + v3))), some (.int (Int32.ofInt (i : Int))), j7, j8] [.int (Int32.ofInt v_24)] (zN L X (zhi s) R G nc ns) Q
            refine zW.run 4 (pc' := 530) (ls' := [some (.ref 6), some (.int (Int32.ofInt n)), some (.int (Int32.ofInt w)), some (.ref P), some (.int (Int32.ofInt a)), some (.int (Int32.ofInt (b + v3))), some (.int (Int32.ofInt (i : Int))), j7, j8]) (st' := [.int (Int32.ofInt 3), .int (Int32.ofInt (i : Int)), .ref 6, .int (Int32.ofInt 4), .int (Int32.ofInt v_24)]) (σ' := (zN L X (zhi s) R G nc ns)) (fun n => rfl) ?_
            refine zW.callV rfl (by decide) rfl rfl rfl rfl rfl (Nat.le_of_ble_eq_true rfl) ?_
            refine t_S_ofGun_3 S V (i := i) (by omega) ?_
            show zW zro 165 533 [some (.ref 6), some (.int (Int32.ofInt n)), some (.int (Int32.ofInt w)), some (.ref P), some (.int (Int32.ofInt a)), some (.int (Int32.ofInt (b + v3))), some (.int (Int32.ofInt (i : Int))), j7, j8] [.int (Int32.ofInt (s (26 + i) 3)), .int (Int32.ofInt 4), .int (Int32.ofInt v_24)] (zN L X (zhi s) R G nc ns) Q
            refine zW.jsub rfl ?_
            refine zW.jcmp_gt rfl (by omega) (fun c29 => ?_) (fun c29 => ?_)
            · skip
              refine zW.run 1 (pc' := 570) (ls' := [some (.ref 6), some (.int (Int32.ofInt n)), some (.int (Int32.ofInt w)), some (.ref P), some (.int (Int32.ofInt a)), some (.int (Int32.ofInt (b + v3))), some (.int (Int32.ofInt (i : Int))), j7, j8]) (st' := [.int (Int32.ofInt 0)]) (σ' := (zN L X (zhi s) R G nc ns)) (fun n => rfl) ?_
              exfalso
              omega
            · skip
              refine zW.run 3 (pc' := 542) (ls' := [some (.ref 6), some (.int (Int32.ofInt n)), some (.int (Int32.ofInt w)), some (.ref P), some (.int (Int32.ofInt a)), some (.int (Int32.ofInt (b + v3))), some (.int (Int32.ofInt (i : Int))), j7, j8]) (st' := [.int (Int32.ofInt 7), .int (Int32.ofInt (i : Int)), .ref 6]) (σ' := (zN L X (zhi s) R G nc ns)) (fun n => rfl) ?_
              refine zW.callV rfl (by decide) rfl rfl rfl rfl rfl (Nat.le_of_ble_eq_true rfl) ?_
              refine t_S_ofGun_7 S V (i := i) (by omega) (fun v_30 f31 f32 f33 f34 => ?_)
              show zW zro 165 545 [some (.ref 6), some (.int (Int32.ofInt n)), some (.int (Int32.ofInt w)), some (.ref P), some (.int (Int32.ofInt a)), some (.int (Int32.ofInt (b + v3))), some (.int (Int32.ofInt (i : Int))), j7, j8] [.int (Int32.ofInt v_30)] (zN L X (zhi s) R G nc ns) Q
              refine zW.jif_le rfl (by omega) (fun c35 => ?_) (fun c35 => ?_)
              · skip
                exact (hQ0 (b + v3) j7 j8 (by omega) (by omega))
              · skip
                refine zW.run 3 (pc' := 552) (ls' := [some (.ref 6), some (.int (Int32.ofInt n)), some (.int (Int32.ofInt w)), some (.ref P), some (.int (Int32.ofInt a)), some (.int (Int32.ofInt (b + v3))), some (.int (Int32.ofInt (i : Int))), j7, j8]) (st' := [.int (Int32.ofInt 5), .int (Int32.ofInt (i : Int)), .ref 6]) (σ' := (zN L X (zhi s) R G nc ns)) (fun n => rfl) ?_
                refine zW.callV rfl (by decide) rfl rfl rfl rfl rfl (Nat.le_of_ble_eq_true rfl) ?_
                refine t_S_ofGun_5 S V (i := i) (by omega) ?_
                show zW zro 165 555 [some (.ref 6), some (.int (Int32.ofInt n)), some (.int (Int32.ofInt w)), some (.ref P), some (.int (Int32.ofInt a)), some (.int (Int32.ofInt (b + v3))), some (.int (Int32.ofInt (i : Int))), j7, j8] [.int (Int32.ofInt (s (26 + i) 5))] (zN L X (zhi s) R G nc ns) Q
                refine zW.jif_gt rfl (by omega) (fun c36 => ?_) (fun c36 => ?_)
                · skip
                  refine zW.run 1 (pc' := 570) (ls' := [some (.ref 6), some (.int (Int32.ofInt n)), some (.int (Int32.ofInt w)), some (.ref P), some (.int (Int32.ofInt a)), some (.int (Int32.ofInt (b + v3))), some (.int (Int32.ofInt (i : Int))), j7, j8]) (st' := [.int (Int32.ofInt 0)]) (σ' := (zN L X (zhi s) R G nc ns)) (fun n => rfl) ?_
                  exfalso
                  omega
                · skip
                  refine zW.run 3 (pc' := 563) (ls' := [some (.ref 6), some (.int (Int32.ofInt n)), some (.int (Int32.ofInt w)), some (.ref P), some (.int (Int32.ofInt a)), some (.int (Int32.ofInt (b + v3))), some (.int (Int32.ofInt (i : Int))), j7, j8]) (st' := [.int (Int32.ofInt 6), .int (Int32.ofInt (i : Int)), .ref 6]) (σ' := (zN L X (zhi s) R G nc ns)) (fun n => rfl) ?_
                  refine zW.callV rfl (by decide) rfl rfl rfl rfl rfl (Nat.le_of_ble_eq_true rfl) ?_
                  refine t_S_ofGun_6 S V (i := i) (by omega) ?_
                  show zW zro 165 566 [some (.ref 6), some (.int (Int32.ofInt n)), some (.int (Int32.ofInt w)), some (.ref P), some (.int (Int32.ofInt a)), some (.int (Int32.ofInt (b + v3))), some (.int (Int32.ofInt (i : Int))), j7, j8] [.int (Int32.ofInt (s (26 + i) 6))] (zN L X (zhi s) R G nc ns) Q
                  refine zW.jif_ge rfl (by omega) (fun c37 => ?_) (fun c37 => ?_)
                  · skip
                    exact (hQ0 (b + v3) j7 j8 (by omega) (by omega))
                  · skip
                    refine zW.run 1 (pc' := 570) (ls' := [some (.ref 6), some (.int (Int32.ofInt n)), some (.int (Int32.ofInt w)), some (.ref P), some (.int (Int32.ofInt a)), some (.int (Int32.ofInt (b + v3))), some (.int (Int32.ofInt (i : Int))), j7, j8]) (st' := [.int (Int32.ofInt 0)]) (σ' := (zN L X (zhi s) R G nc ns)) (fun n => rfl) ?_
                    exfalso
                    omega
  refine zW.jif_ne rfl (by omega) (fun c38 => ?_) (fun c38 => ?_)
  · skip
    refine zW.run 1 (pc' := 471) (ls' := [some (.ref 6), some (.int (Int32.ofInt n)), some (.int (Int32.ofInt w)), some (.ref P), some (.int (Int32.ofInt a)), some (.int (Int32.ofInt b)), some (.int (Int32.ofInt (i : Int))), j7, j8]) (st' := [.int (Int32.ofInt 0), .int (Int32.ofInt b)]) (σ' := (zN L X (zhi s) R G nc ns)) (fun n => rfl) ?_
    exact J4 0 (by omega)
  · skip
    refine zW.run 2 (pc' := 471) (ls' := [some (.ref 6), some (.int (Int32.ofInt n)), some (.int (Int32.ofInt w)), some (.ref P), some (.int (Int32.ofInt a)), some (.int (Int32.ofInt b)), some (.int (Int32.ofInt (i : Int))), j7, j8]) (st' := [.int (Int32.ofInt 1), .int (Int32.ofInt b)]) (σ' := (zN L X (zhi s) R G nc ns)) (fun n => rfl) ?_
    exact J4 1 (by omega)
end ZB
