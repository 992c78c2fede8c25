/-! a part of what must be so: m (printed by program) -/
section ZB
variable {ro : Nat → Int32 → zS → Option (zO × zS)} {L : Nat} {X : zK} {s : zJ} {R : Nat → Nat → Option Nat} {G : Nat → Nat → Int64} {nc ns : Nat} {Q : zO → zS → Prop} {g : Nat → Int} {U F T B ph : Int}
set_option maxRecDepth 20000 in
set_option maxHeartbeats 20000000 in
theorem t_L_isSo_m (S : zSR R) (V : zV g U F T B ph s) {n : Int} {w : Int} {a : Int} {b : Int} {i : Nat} {P : Nat} {j7 : Option Value} {j8 : Option Value} (p0 : (i : Int) < s 7 9) (p1 : i < 6) (hQ0 : ∀ (u7 : Option Value) (u8 : Option Value), zW zro 165 665 [some (.ref 6), some (.int (Int32.ofInt n)), some (.int (Int32.ofInt w)), some (.ref P), some (.int (Int32.ofInt a)), some (.int (Int32.ofInt b)), some (.int (Int32.ofInt (i : Int))), u7, u8] [] (zN L X (zhi s) R G nc ns) Q) : zW zro 165 591 [some (.ref 6), some (.int (Int32.ofInt n)), some (.int (Int32.ofInt w)), some (.ref P), some (.int (Int32.ofInt a)), some (.int (Int32.ofInt b)), some (.int (Int32.ofInt (i : Int))), j7, j8] [] (zN L X (zhi s) R G nc ns) Q := by
  have f1 := zA_geo (zV_zA V)
  have hB0 := zV_B V
  have m2 := (zV_zM2 V).2 i (by omega)
  refine zW.run 3 (pc' := 596) (ls' := [some (.ref 6), some (.int (Int32.ofInt n)), some (.int (Int32.ofInt w)), some (.ref P), some (.int (Int32.ofInt a)), some (.int (Int32.ofInt b)), some (.int (Int32.ofInt (i : Int))), j7, j8]) (st' := [.int (Int32.ofInt 7), .int (Int32.ofInt (i : Int)), .ref 6]) (σ' := (zN L X (zhi s) R G nc ns)) (fun n => rfl) ?_
  refine zW.callV rfl (by decide) rfl rfl rfl rfl rfl (Nat.le_of_ble_eq_true rfl) ?_
  refine t_S_ofMine_7 S V (i := i) (by omega) ?_
  show zW zro 165 599 [some (.ref 6), some (.int (Int32.ofInt n)), some (.int (Int32.ofInt w)), some (.ref P), some (.int (Int32.ofInt a)), some (.int (Int32.ofInt b)), some (.int (Int32.ofInt (i : Int))), j7, j8] [.int (Int32.ofInt (s (54 + 2 * i) 2))] (zN L X (zhi s) R G nc ns) Q
  have f2 := zV_min V (i := i) (by omega)
  refine zW.run 1 (pc' := 600) (ls' := [some (.ref 6), some (.int (Int32.ofInt n)), some (.int (Int32.ofInt w)), some (.ref P), some (.int (Int32.ofInt a)), some (.int (Int32.ofInt b)), some (.int (Int32.ofInt (i : Int))), j7, j8]) (st' := [.int (Int32.ofInt 1), .int (Int32.ofInt (s (54 + 2 * i) 2))]) (σ' := (zN L X (zhi s) R G nc ns)) (fun n => rfl) ?_
  refine zW.jcmp_lt rfl (by omega) (fun c3 => ?_) (fun c3 => ?_)
  · skip
    refine zW.run 1 (pc' := 664) (ls' := [some (.ref 6), some (.int (Int32.ofInt n)), some (.int (Int32.ofInt w)), some (.ref P), some (.int (Int32.ofInt a)), some (.int (Int32.ofInt b)), some (.int (Int32.ofInt (i : Int))), j7, j8]) (st' := [.int (Int32.ofInt 0)]) (σ' := (zN L X (zhi s) R G nc ns)) (fun n => rfl) ?_
    exfalso
    omega
  · skip
    refine zW.run 3 (pc' := 608) (ls' := [some (.ref 6), some (.int (Int32.ofInt n)), some (.int (Int32.ofInt w)), some (.ref P), some (.int (Int32.ofInt a)), some (.int (Int32.ofInt b)), some (.int (Int32.ofInt (i : Int))), j7, j8]) (st' := [.int (Int32.ofInt 7), .int (Int32.ofInt (i : Int)), .ref 6]) (σ' := (zN L X (zhi s) R G nc ns)) (fun n => rfl) ?_
    refine zW.callV rfl (by decide) rfl rfl rfl rfl rfl (Nat.le_of_ble_eq_true rfl) ?_
    refine t_S_ofMine_7 S V (i := i) (by omega) ?_
    show zW zro 165 611 [some (.ref 6), some (.int (Int32.ofInt n)), some (.int (Int32.ofInt w)), some (.ref P), some (.int (Int32.ofInt a)), some (.int (Int32.ofInt b)), some (.int (Int32.ofInt (i : Int))), j7, j8] [.int (Int32.ofInt (s (54 + 2 * i) 2))] (zN L X (zhi s) R G nc ns) Q
    refine zW.run 1 (pc' := 613) (ls' := [some (.ref 6), some (.int (Int32.ofInt n)), some (.int (Int32.ofInt w)), some (.ref P), some (.int (Int32.ofInt a)), some (.int (Int32.ofInt b)), some (.int (Int32.ofInt (i : Int))), j7, j8]) (st' := [.int (Int32.ofInt 6), .int (Int32.ofInt (s (54 + 2 * i) 2))]) (σ' := (zN L X (zhi s) R G nc ns)) (fun n => rfl) ?_
    refine zW.jcmp_gt rfl (by omega) (fun c4 => ?_) (fun c4 => ?_)
    · skip
      refine zW.run 1 (pc' := 664) (ls' := [some (.ref 6), some (.int (Int32.ofInt n)), some (.int (Int32.ofInt w)), some (.ref P), some (.int (Int32.ofInt a)), some (.int (Int32.ofInt b)), some (.int (Int32.ofInt (i : Int))), j7, j8]) (st' := [.int (Int32.ofInt 0)]) (σ' := (zN L X (zhi s) R G nc ns)) (fun n => rfl) ?_
      exfalso
      omega
    · skip
      refine zW.run 3 (pc' := 621) (ls' := [some (.ref 6), some (.int (Int32.ofInt n)), some (.int (Int32.ofInt w)), some (.ref P), some (.int (Int32.ofInt a)), some (.int (Int32.ofInt b)), some (.int (Int32.ofInt (i : Int))), j7, j8]) (st' := [.int (Int32.ofInt 6), .int (Int32.ofInt (i : Int)), .ref 6]) (σ' := (zN L X (zhi s) R G nc ns)) (fun n => rfl) ?_
      refine zW.callV rfl (by decide) rfl rfl rfl rfl rfl (Nat.le_of_ble_eq_true rfl) ?_
      refine t_S_ofMine_6 S V (i := i) (by omega) ?_
      show zW zro 165 624 [some (.ref 6), some (.int (Int32.ofInt n)), some (.int (Int32.ofInt w)), some (.ref P), some (.int (Int32.ofInt a)), some (.int (Int32.ofInt b)), some (.int (Int32.ofInt (i : Int))), j7, j8] [.int (Int32.ofInt (s (54 + 2 * i) 6))] (zN L X (zhi s) R G nc ns) Q
      refine zW.run 1 (pc' := 625) (ls' := [some (.ref 6), some (.int (Int32.ofInt n)), some (.int (Int32.ofInt w)), some (.ref P), some (.int (Int32.ofInt a)), some (.int (Int32.ofInt b)), some (.int (Int32.ofInt (i : Int))), j7, j8]) (st' := [.int (Int32.ofInt 3), .int (Int32.ofInt (s (54 + 2 * i) 6))]) (σ' := (zN L X (zhi s) R G nc ns)) (fun n => rfl) ?_
      refine zW.jcmp_gt rfl (by omega) (fun c5 => ?_) (fun c5 => ?_)
      · skip
        refine zW.run 1 (pc' := 664) (ls' := [some (.ref 6), some (.int (Int32.ofInt n)), some (.int (Int32.ofInt w)), some (.ref P), some (.int (Int32.ofInt a)), some (.int (Int32.ofInt b)), some (.int (Int32.ofInt (i : Int))), j7, j8]) (st' := [.int (Int32.ofInt 0)]) (σ' := (zN L X (zhi s) R G nc ns)) (fun n => rfl) ?_
        exfalso
        omega
      · skip
        refine zW.run 3 (pc' := 633) (ls' := [some (.ref 6), some (.int (Int32.ofInt n)), some (.int (Int32.ofInt w)), some (.ref P), some (.int (Int32.ofInt a)), some (.int (Int32.ofInt b)), some (.int (Int32.ofInt (i : Int))), j7, j8]) (st' := [.int (Int32.ofInt 8), .int (Int32.ofInt (i : Int)), .ref 6]) (σ' := (zN L X (zhi s) R G nc ns)) (fun n => rfl) ?_
        refine zW.callV rfl (by decide) rfl rfl rfl rfl rfl (Nat.le_of_ble_eq_true rfl) ?_
        refine t_S_ofMine_8 S V (i := i) (by omega) (fun f6 f7 => ?_) ?_
        · skip
          show zW zro 165 636 [some (.ref 6), some (.int (Int32.ofInt n)), some (.int (Int32.ofInt w)), some (.ref P), some (.int (Int32.ofInt a)), some (.int (Int32.ofInt b)), some (.int (Int32.ofInt (i : Int))), j7, j8] [.int (Int32.ofInt 1)] (zN L X (zhi s) R G nc ns) Q
          refine zW.run 5 (pc' := 645) (ls' := [some (.ref 6), some (.int (Int32.ofInt n)), some (.int (Int32.ofInt w)), some (.ref P), some (.int (Int32.ofInt a)), some (.int (Int32.ofInt b)), some (.int (Int32.ofInt (i : Int))), j7, j8]) (st' := [.int (Int32.ofInt 6), .int (Int32.ofInt (i : Int)), .ref 6]) (σ' := (zN L X (zhi s) R G nc ns)) (fun n => rfl) ?_
          refine zW.callV rfl (by decide) rfl rfl rfl rfl rfl (Nat.le_of_ble_eq_true rfl) ?_
          refine t_S_ofMine_6 S V (i := i) (by omega) ?_
          show zW zro 165 648 [some (.ref 6), some (.int (Int32.ofInt n)), some (.int (Int32.ofInt w)), some (.ref P), some (.int (Int32.ofInt a)), some (.int (Int32.ofInt b)), some (.int (Int32.ofInt (i : Int))), j7, j8] [.int (Int32.ofInt (s (54 + 2 * i) 6))] (zN L X (zhi s) R G nc ns) Q
          refine zW.jif_ne rfl (by omega) (fun c8 => ?_) (fun c8 => ?_)
          · skip
            refine zW.run 1 (pc' := 664) (ls' := [some (.ref 6), some (.int (Int32.ofInt n)), some (.int (Int32.ofInt w)), some (.ref P), some (.int (Int32.ofInt a)), some (.int (Int32.ofInt b)), some (.int (Int32.ofInt (i : Int))), j7, j8]) (st' := [.int (Int32.ofInt 0)]) (σ' := (zN L X (zhi s) R G nc ns)) (fun n => rfl) ?_
            exfalso
            omega
          · skip
            refine zW.run 3 (pc' := 656) (ls' := [some (.ref 6), some (.int (Int32.ofInt n)), some (.int (Int32.ofInt w)), some (.ref P), some (.int (Int32.ofInt a)), some (.int (Int32.ofInt b)), some (.int (Int32.ofInt (i : Int))), j7, j8]) (st' := [.int (Int32.ofInt 7), .int (Int32.ofInt (i : Int)), .ref 6]) (σ' := (zN L X (zhi s) R G nc ns)) (fun n => rfl) ?_
            refine zW.callV rfl (by decide) rfl rfl rfl rfl rfl (Nat.le_of_ble_eq_true rfl) ?_
            refine t_S_ofMine_7 S V (i := i) (by omega) ?_
            show zW zro 165 659 [some (.ref 6), some (.int (Int32.ofInt n)), some (.int (Int32.ofInt w)), some (.ref P), some (.int (Int32.ofInt a)), some (.int (Int32.ofInt b)), some (.int (Int32.ofInt (i : Int))), j7, j8] [.int (Int32.ofInt (s (54 + 2 * i) 2))] (zN L X (zhi s) R G nc ns) Q
            refine zW.run 1 (pc' := 660) (ls' := [some (.ref 6), some (.int (Int32.ofInt n)), some (.int (Int32.ofInt w)), some (.ref P), some (.int (Int32.ofInt a)), some (.int (Int32.ofInt b)), some (.int (Int32.ofInt (i : Int))), j7, j8]) (st' := [.int (Int32.ofInt 2), .int (Int32.ofInt (s (54 + 2 * i) 2))]) (σ' := (zN L X (zhi s) R G nc ns)) (fun n => rfl) ?_
            refine zW.jcmp_ge rfl (by omega) (fun c9 => ?_) (fun c9 => ?_)
            · skip
              exact (hQ0 j7 j8)
            · skip
              refine zW.run 1 (pc' := 664) (ls' := [some (.ref 6), some (.int (Int32.ofInt n)), some (.int (Int32.ofInt w)), some (.ref P), some (.int (Int32.ofInt a)), some (.int (Int32.ofInt b)), some (.int (Int32.ofInt (i : Int))), j7, j8]) (st' := [.int (Int32.ofInt 0)]) (σ' := (zN L X (zhi s) R G nc ns)) (fun n => rfl) ?_
              exfalso
              omega
        · skip
          show zW zro 165 636 [some (.ref 6), some (.int (Int32.ofInt n)), some (.int (Int32.ofInt w)), some (.ref P), some (.int (Int32.ofInt a)), some (.int (Int32.ofInt b)), some (.int (Int32.ofInt (i : Int))), j7, j8] [.int (Int32.ofInt 0)] (zN L X (zhi s) R G nc ns) Q
          refine zW.run 2 (pc' := 665) (ls' := [some (.ref 6), some (.int (Int32.ofInt n)), some (.int (Int32.ofInt w)), some (.ref P), some (.int (Int32.ofInt a)), some (.int (Int32.ofInt b)), some (.int (Int32.ofInt (i : Int))), j7, j8]) (st' := []) (σ' := (zN L X (zhi s) R G nc ns)) (fun n => rfl) ?_
          exact (hQ0 j7 j8)
end ZB
