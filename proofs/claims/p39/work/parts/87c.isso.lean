/-! a part of what must be so: c (printed by program) -/
section ZB
variable {ro : Nat → Int32 → zS → Option (zO × zS)} {L : Nat} {X : zK} {s : zJ} {R : Nat → Nat → Option Nat} {G : Nat → Nat → Int64} {nc ns : Nat} {Q : zO → zS → Prop} {g : Nat → Int} {U F T B ph : Int}
set_option maxRecDepth 20000 in
set_option maxHeartbeats 20000000 in
theorem t_L_isSo_c (S : zSR R) (V : zV g U F T B ph s) {n : Int} {w : Int} {a : Int} {i : Nat} {P : Nat} {j6 : Option Value} {j7 : Option Value} {j8 : Option Value} (p0 : i < 8) (p1 : 0 ≤ a ∧ a ≤ 100) (hQ0 : ∀ (a1 : Int) (u6 : Option Value) (u7 : Option Value) (u8 : Option Value), a1 = a + zcp s (i + 1) - zcp s i → a ≤ a1 ∧ a1 ≤ a + 1 → zW zro 165 435 [some (.ref 6), some (.int (Int32.ofInt n)), some (.int (Int32.ofInt w)), some (.ref P), some (.int (Int32.ofInt a1)), some (.int (Int32.ofInt (i : Int))), u6, u7, u8] [] (zN L X (zhi s) R G nc ns) Q) : zW zro 165 279 [some (.ref 6), some (.int (Int32.ofInt n)), some (.int (Int32.ofInt w)), some (.ref P), some (.int (Int32.ofInt a)), some (.int (Int32.ofInt (i : Int))), j6, j7, j8] [] (zN L X (zhi s) R G nc ns) Q := by
  have f1 := zA_geo (zV_zA V)
  have hB0 := zV_B V
  have hz := @zcp_s s i
  have c2 := zV_zC2 V i (by omega)
  refine zW.run 3 (pc' := 283) (ls' := [some (.ref 6), some (.int (Int32.ofInt n)), some (.int (Int32.ofInt w)), some (.ref P), some (.int (Int32.ofInt a)), some (.int (Int32.ofInt (i : Int))), j6, j7, j8]) (st' := [.int (Int32.ofInt 2), .int (Int32.ofInt (i : Int)), .ref 6]) (σ' := (zN L X (zhi s) R G nc ns)) (fun n => rfl) ?_
  refine zW.callV rfl (by decide) rfl rfl rfl rfl rfl (Nat.le_of_ble_eq_true rfl) ?_
  refine t_S_ofCompany_2 S V (i := i) (by omega) ?_
  show zW zro 165 286 [some (.ref 6), some (.int (Int32.ofInt n)), some (.int (Int32.ofInt w)), some (.ref P), some (.int (Int32.ofInt a)), some (.int (Int32.ofInt (i : Int))), j6, j7, j8] [.int (Int32.ofInt (s (42 + i) 2))] (zN L X (zhi s) R G nc ns) Q
  have f2 := zV_com V (i := i) (by omega)
  refine zW.run 4 (pc' := 292) (ls' := [some (.ref 6), some (.int (Int32.ofInt n)), some (.int (Int32.ofInt w)), some (.ref P), some (.int (Int32.ofInt a)), some (.int (Int32.ofInt (i : Int))), some (.int (Int32.ofInt (s (42 + i) 2))), j7, j8]) (st' := [.int (Int32.ofInt 4), .int (Int32.ofInt (i : Int)), .ref 6]) (σ' := (zN L X (zhi s) R G nc ns)) (fun n => rfl) ?_
  refine zW.callV rfl (by decide) rfl rfl rfl rfl rfl (Nat.le_of_ble_eq_true rfl) ?_
  refine t_S_ofCompany_4 S V (i := i) (by omega) ?_
  show zW zro 165 295 [some (.ref 6), some (.int (Int32.ofInt n)), some (.int (Int32.ofInt w)), some (.ref P), some (.int (Int32.ofInt a)), some (.int (Int32.ofInt (i : Int))), some (.int (Int32.ofInt (s (42 + i) 2))), j7, j8] [.int (Int32.ofInt (s (42 + i) 4))] (zN L X (zhi s) R G nc ns) Q
  refine zW.run 3 (pc' := 301) (ls' := [some (.ref 6), some (.int (Int32.ofInt n)), some (.int (Int32.ofInt w)), some (.ref P), some (.int (Int32.ofInt a)), some (.int (Int32.ofInt (i : Int))), some (.int (Int32.ofInt (s (42 + i) 2))), some (.int (Int32.ofInt (s (42 + i) 4))), j8]) (st' := [.int (Int32.ofInt (s (42 + i) 2)), .int (Int32.ofInt a)]) (σ' := (zN L X (zhi s) R G nc ns)) (fun n => rfl) ?_
  have J4 : ∀ (v3 : Int), ((s (42 + i) 2) ≤ 0 ∧ v3 = 0) ∨ ((s (42 + i) 2) > 0 ∧ v3 = 1) → zW zro 165 309 [some (.ref 6), some (.int (Int32.ofInt n)), some (.int (Int32.ofInt w)), some (.ref P), some (.int (Int32.ofInt a)), some (.int (Int32.ofInt (i : Int))), some (.int (Int32.ofInt (s (42 + i) 2))), some (.int (Int32.ofInt (s (42 + i) 4))), j8] [.int (Int32.ofInt v3), .int (Int32.ofInt a)] (zN L X (zhi s) R G nc ns) Q := by
    intro v3 c5
    refine zW.jadd rfl ?_
    refine zW.run 2 (pc' := 314) (ls' := [some (.ref 6), some (.int (Int32.ofInt n)), some (.int (Int32.ofInt w)), some (.ref P), some (.int (Int32.ofInt (a + v3))), some (.int (Int32.ofInt (i : Int))), some (.int (Int32.ofInt (s (42 + i) 2))), some (.int (Int32.ofInt (s (42 + i) 4))), j8]) (st' := [.int (Int32.ofInt (s (42 + i) 2))]) (σ' := (zN L X (zhi s) R G nc ns)) (fun n => rfl) ?_
    refine zW.jif_lt rfl (by omega) (fun c6 => ?_) (fun c6 => ?_)
    · skip
      refine zW.run 1 (pc' := 389) (ls' := [some (.ref 6), some (.int (Int32.ofInt n)), some (.int (Int32.ofInt w)), some (.ref P), some (.int (Int32.ofInt (a + v3))), some (.int (Int32.ofInt (i : Int))), some (.int (Int32.ofInt (s (42 + i) 2))), some (.int (Int32.ofInt (s (42 + i) 4))), j8]) (st' := [.int (Int32.ofInt 0)]) (σ' := (zN L X (zhi s) R G nc ns)) (fun n => rfl) ?_
      exfalso
      omega
    · skip
      refine zW.run 2 (pc' := 322) (ls' := [some (.ref 6), some (.int (Int32.ofInt n)), some (.int (Int32.ofInt w)), some (.ref P), some (.int (Int32.ofInt (a + v3))), some (.int (Int32.ofInt (i : Int))), some (.int (Int32.ofInt (s (42 + i) 2))), some (.int (Int32.ofInt (s (42 + i) 4))), j8]) (st' := [.int (Int32.ofInt 200), .int (Int32.ofInt (s (42 + i) 2))]) (σ' := (zN L X (zhi s) R G nc ns)) (fun n => rfl) ?_
      refine zW.jcmp_gt rfl (by omega) (fun c7 => ?_) (fun c7 => ?_)
      · skip
        refine zW.run 1 (pc' := 389) (ls' := [some (.ref 6), some (.int (Int32.ofInt n)), some (.int (Int32.ofInt w)), some (.ref P), some (.int (Int32.ofInt (a + v3))), some (.int (Int32.ofInt (i : Int))), some (.int (Int32.ofInt (s (42 + i) 2))), some (.int (Int32.ofInt (s (42 + i) 4))), j8]) (st' := [.int (Int32.ofInt 0)]) (σ' := (zN L X (zhi s) R G nc ns)) (fun n => rfl) ?_
        exfalso
        omega
      · skip
        refine zW.run 3 (pc' := 329) (ls' := [some (.ref 6), some (.int (Int32.ofInt n)), some (.int (Int32.ofInt w)), some (.ref P), some (.int (Int32.ofInt (a + v3))), some (.int (Int32.ofInt (i : Int))), some (.int (Int32.ofInt (s (42 + i) 2))), some (.int (Int32.ofInt (s (42 + i) 4))), j8]) (st' := [.int (Int32.ofInt 3), .int (Int32.ofInt (i : Int)), .ref 6]) (σ' := (zN L X (zhi s) R G nc ns)) (fun n => rfl) ?_
        refine zW.callV rfl (by decide) rfl rfl rfl rfl rfl (Nat.le_of_ble_eq_true rfl) ?_
        refine t_S_ofCompany_3 S V (i := i) (by omega) ?_
        show zW zro 165 332 [some (.ref 6), some (.int (Int32.ofInt n)), some (.int (Int32.ofInt w)), some (.ref P), some (.int (Int32.ofInt (a + v3))), some (.int (Int32.ofInt (i : Int))), some (.int (Int32.ofInt (s (42 + i) 2))), some (.int (Int32.ofInt (s (42 + i) 4))), j8] [.int (Int32.ofInt (s (42 + i) 3))] (zN L X (zhi s) R G nc ns) Q
        refine zW.jif_lt rfl (by omega) (fun c8 => ?_) (fun c8 => ?_)
        · skip
          refine zW.run 1 (pc' := 389) (ls' := [some (.ref 6), some (.int (Int32.ofInt n)), some (.int (Int32.ofInt w)), some (.ref P), some (.int (Int32.ofInt (a + v3))), some (.int (Int32.ofInt (i : Int))), some (.int (Int32.ofInt (s (42 + i) 2))), some (.int (Int32.ofInt (s (42 + i) 4))), j8]) (st' := [.int (Int32.ofInt 0)]) (σ' := (zN L X (zhi s) R G nc ns)) (fun n => rfl) ?_
          exfalso
          omega
        · skip
          refine zW.run 3 (pc' := 339) (ls' := [some (.ref 6), some (.int (Int32.ofInt n)), some (.int (Int32.ofInt w)), some (.ref P), some (.int (Int32.ofInt (a + v3))), some (.int (Int32.ofInt (i : Int))), some (.int (Int32.ofInt (s (42 + i) 2))), some (.int (Int32.ofInt (s (42 + i) 4))), j8]) (st' := [.int (Int32.ofInt 3), .int (Int32.ofInt (i : Int)), .ref 6]) (σ' := (zN L X (zhi s) R G nc ns)) (fun n => rfl) ?_
          refine zW.callV rfl (by decide) rfl rfl rfl rfl rfl (Nat.le_of_ble_eq_true rfl) ?_
          refine t_S_ofCompany_3 S V (i := i) (by omega) ?_
          show zW zro 165 342 [some (.ref 6), some (.int (Int32.ofInt n)), some (.int (Int32.ofInt w)), some (.ref P), some (.int (Int32.ofInt (a + v3))), some (.int (Int32.ofInt (i : Int))), some (.int (Int32.ofInt (s (42 + i) 2))), some (.int (Int32.ofInt (s (42 + i) 4))), j8] [.int (Int32.ofInt (s (42 + i) 3))] (zN L X (zhi s) R G nc ns) Q
          refine zW.run 1 (pc' := 344) (ls' := [some (.ref 6), some (.int (Int32.ofInt n)), some (.int (Int32.ofInt w)), some (.ref P), some (.int (Int32.ofInt (a + v3))), some (.int (Int32.ofInt (i : Int))), some (.int (Int32.ofInt (s (42 + i) 2))), some (.int (Int32.ofInt (s (42 + i) 4))), j8]) (st' := [.int (Int32.ofInt 12), .int (Int32.ofInt (s (42 + i) 3))]) (σ' := (zN L X (zhi s) R G nc ns)) (fun n => rfl) ?_
          refine zW.jcmp_gt rfl (by omega) (fun c9 => ?_) (fun c9 => ?_)
          · skip
            refine zW.run 1 (pc' := 389) (ls' := [some (.ref 6), some (.int (Int32.ofInt n)), some (.int (Int32.ofInt w)), some (.ref P), some (.int (Int32.ofInt (a + v3))), some (.int (Int32.ofInt (i : Int))), some (.int (Int32.ofInt (s (42 + i) 2))), some (.int (Int32.ofInt (s (42 + i) 4))), j8]) (st' := [.int (Int32.ofInt 0)]) (σ' := (zN L X (zhi s) R G nc ns)) (fun n => rfl) ?_
            exfalso
            omega
          · skip
            refine zW.run 1 (pc' := 349) (ls' := [some (.ref 6), some (.int (Int32.ofInt n)), some (.int (Int32.ofInt w)), some (.ref P), some (.int (Int32.ofInt (a + v3))), some (.int (Int32.ofInt (i : Int))), some (.int (Int32.ofInt (s (42 + i) 2))), some (.int (Int32.ofInt (s (42 + i) 4))), j8]) (st' := [.int (Int32.ofInt (s (42 + i) 4))]) (σ' := (zN L X (zhi s) R G nc ns)) (fun n => rfl) ?_
            have J11 : ∀ (v10 : Int), ((s (42 + i) 4) = 0 ∧ v10 = 1) ∨ (¬ (s (42 + i) 4) = 0 ∧ (s (42 + i) 4) = 2 ∧ v10 = 1) ∨ (¬ (s (42 + i) 4) = 0 ∧ ¬ (s (42 + i) 4) = 2 ∧ ¬ (s (42 + i) 4) = 3 ∧ v10 = 0) ∨ (¬ (s (42 + i) 4) = 0 ∧ ¬ (s (42 + i) 4) = 2 ∧ (s (42 + i) 4) = 3 ∧ v10 = 1) → zW zro 165 369 [some (.ref 6), some (.int (Int32.ofInt n)), some (.int (Int32.ofInt w)), some (.ref P), some (.int (Int32.ofInt (a + v3))), some (.int (Int32.ofInt (i : Int))), some (.int (Int32.ofInt (s (42 + i) 2))), some (.int (Int32.ofInt (s (42 + i) 4))), j8] [.int (Int32.ofInt v10)] (zN L X (zhi s) R G nc ns) Q := by
              intro v10 c12
              refine zW.run 3 (pc' := 373) (ls' := [some (.ref 6), some (.int (Int32.ofInt n)), some (.int (Int32.ofInt w)), some (.ref P), some (.int (Int32.ofInt (a + v3))), some (.int (Int32.ofInt (i : Int))), some (.int (Int32.ofInt (s (42 + i) 2))), some (.int (Int32.ofInt (s (42 + i) 4))), j8]) (st' := [.int (Int32.ofInt 5), .int (Int32.ofInt (i : Int)), .ref 6, .int (Int32.ofInt v10)]) (σ' := (zN L X (zhi s) R G nc ns)) (fun n => rfl) ?_
              refine zW.callV rfl (by decide) rfl rfl rfl rfl rfl (Nat.le_of_ble_eq_true rfl) ?_
              refine t_S_ofCompany_5 S V (i := i) (by omega) ?_
              show zW zro 165 376 [some (.ref 6), some (.int (Int32.ofInt n)), some (.int (Int32.ofInt w)), some (.ref P), some (.int (Int32.ofInt (a + v3))), some (.int (Int32.ofInt (i : Int))), some (.int (Int32.ofInt (s (42 + i) 2))), some (.int (Int32.ofInt (s (42 + i) 4))), j8] [.int (Int32.ofInt (s (42 + i) 5)), .int (Int32.ofInt v10)] (zN L X (zhi s) R G nc ns) Q
              refine zW.run 1 (pc' := 377) (ls' := [some (.ref 6), some (.int (Int32.ofInt n)), some (.int (Int32.ofInt w)), some (.ref P), some (.int (Int32.ofInt (a + v3))), some (.int (Int32.ofInt (i : Int))), some (.int (Int32.ofInt (s (42 + i) 2))), some (.int (Int32.ofInt (s (42 + i) 4))), j8]) (st' := [.int (Int32.ofInt (-1)), .int (Int32.ofInt (s (42 + i) 5)), .int (Int32.ofInt v10)]) (σ' := (zN L X (zhi s) R G nc ns)) (fun n => rfl) ?_
              have J14 : ∀ (v13 : Int), (¬ (s (42 + i) 5) = (-1) ∧ v13 = 0) ∨ ((s (42 + i) 5) = (-1) ∧ v13 = 1) → zW zro 165 385 [some (.ref 6), some (.int (Int32.ofInt n)), some (.int (Int32.ofInt w)), some (.ref P), some (.int (Int32.ofInt (a + v3))), some (.int (Int32.ofInt (i : Int))), some (.int (Int32.ofInt (s (42 + i) 2))), some (.int (Int32.ofInt (s (42 + i) 4))), j8] [.int (Int32.ofInt v13), .int (Int32.ofInt v10)] (zN L X (zhi s) R G nc ns) Q := by
                intro v13 c15
                refine zW.jcmp_eq rfl (by omega) (fun c16 => ?_) (fun c16 => ?_)
                · skip
                  refine zW.run 3 (pc' := 395) (ls' := [some (.ref 6), some (.int (Int32.ofInt n)), some (.int (Int32.ofInt w)), some (.ref P), some (.int (Int32.ofInt (a + v3))), some (.int (Int32.ofInt (i : Int))), some (.int (Int32.ofInt (s (42 + i) 2))), some (.int (Int32.ofInt (s (42 + i) 4))), j8]) (st' := [.int (Int32.ofInt 6), .int (Int32.ofInt (i : Int)), .ref 6]) (σ' := (zN L X (zhi s) R G nc ns)) (fun n => rfl) ?_
                  refine zW.callV rfl (by decide) rfl rfl rfl rfl rfl (Nat.le_of_ble_eq_true rfl) ?_
                  refine t_S_ofCompany_6 S V (i := i) (by omega) (fun o_17 w_18 v_19 f20 f21 f22 f23 => ?_)
                  show zW zro 165 398 [some (.ref 6), some (.int (Int32.ofInt n)), some (.int (Int32.ofInt w)), some (.ref P), some (.int (Int32.ofInt (a + v3))), some (.int (Int32.ofInt (i : Int))), some (.int (Int32.ofInt (s (42 + i) 2))), some (.int (Int32.ofInt (s (42 + i) 4))), j8] [.int (Int32.ofInt v_19)] (zN L X (zhi s) R G nc ns) Q
                  refine zW.run 5 (pc' := 406) (ls' := [some (.ref 6), some (.int (Int32.ofInt n)), some (.int (Int32.ofInt w)), some (.ref P), some (.int (Int32.ofInt (a + v3))), some (.int (Int32.ofInt (i : Int))), some (.int (Int32.ofInt (s (42 + i) 2))), some (.int (Int32.ofInt (s (42 + i) 4))), j8]) (st' := [.int (Int32.ofInt 3), .int (Int32.ofInt (i : Int)), .ref 6, .int (Int32.ofInt 14), .int (Int32.ofInt (s (42 + i) 2)), .int (Int32.ofInt v_19)]) (σ' := (zN L X (zhi s) R G nc ns)) (fun n => rfl) ?_
                  refine zW.callV rfl (by decide) rfl rfl rfl rfl rfl (Nat.le_of_ble_eq_true rfl) ?_
                  refine t_S_ofCompany_3 S V (i := i) (by omega) ?_
                  show zW zro 165 409 [some (.ref 6), some (.int (Int32.ofInt n)), some (.int (Int32.ofInt w)), some (.ref P), some (.int (Int32.ofInt (a + v3))), some (.int (Int32.ofInt (i : Int))), some (.int (Int32.ofInt (s (42 + i) 2))), some (.int (Int32.ofInt (s (42 + i) 4))), j8] [.int (Int32.ofInt (s (42 + i) 3)), .int (Int32.ofInt 14), .int (Int32.ofInt (s (42 + i) 2)), .int (Int32.ofInt v_19)] (zN L X (zhi s) R G nc ns) Q
                  refine zW.jsub rfl ?_
                  refine zW.jmul rfl ?_
                  refine zW.run 4 (pc' := 416) (ls' := [some (.ref 6), some (.int (Int32.ofInt n)), some (.int (Int32.ofInt w)), some (.ref P), some (.int (Int32.ofInt (a + v3))), some (.int (Int32.ofInt (i : Int))), some (.int (Int32.ofInt (s (42 + i) 2))), some (.int (Int32.ofInt (s (42 + i) 4))), j8]) (st' := [.int (Int32.ofInt 0), .int (Int32.ofInt (i : Int)), .ref 6, .ref 6, .int (Int32.ofInt ((s (42 + i) 2) * (14 - (s (42 + i) 3)))), .int (Int32.ofInt v_19)]) (σ' := (zN L X (zhi s) R G nc ns)) (fun n => rfl) ?_
                  refine zW.callV rfl (by decide) rfl rfl rfl rfl rfl (Nat.le_of_ble_eq_true rfl) ?_
                  refine t_S_ofCompany_0 S V (i := i) (by omega) ?_
                  show zW zro 165 419 [some (.ref 6), some (.int (Int32.ofInt n)), some (.int (Int32.ofInt w)), some (.ref P), some (.int (Int32.ofInt (a + v3))), some (.int (Int32.ofInt (i : Int))), some (.int (Int32.ofInt (s (42 + i) 2))), some (.int (Int32.ofInt (s (42 + i) 4))), j8] [.int (Int32.ofInt (s (42 + i) 0)), .ref 6, .int (Int32.ofInt ((s (42 + i) 2) * (14 - (s (42 + i) 3)))), .int (Int32.ofInt v_19)] (zN L X (zhi s) R G nc ns) Q
                  refine zW.run 1 (pc' := 420) (ls' := [some (.ref 6), some (.int (Int32.ofInt n)), some (.int (Int32.ofInt w)), some (.ref P), some (.int (Int32.ofInt (a + v3))), some (.int (Int32.ofInt (i : Int))), some (.int (Int32.ofInt (s (42 + i) 2))), some (.int (Int32.ofInt (s (42 + i) 4))), j8]) (st' := [.int (Int32.ofInt 3), .int (Int32.ofInt (s (42 + i) 0)), .ref 6, .int (Int32.ofInt ((s (42 + i) 2) * (14 - (s (42 + i) 3)))), .int (Int32.ofInt v_19)]) (σ' := (zN L X (zhi s) R G nc ns)) (fun n => rfl) ?_
                  refine zW.callV rfl (by decide) rfl rfl rfl rfl rfl (Nat.le_of_ble_eq_true rfl) ?_
                  refine t_S_ofSide_3 S V (x := (s (42 + i) 0)) (by omega) (fun o_24 v_25 f26 f27 f28 => ?_)
                  show zW zro 165 423 [some (.ref 6), some (.int (Int32.ofInt n)), some (.int (Int32.ofInt w)), some (.ref P), some (.int (Int32.ofInt (a + v3))), some (.int (Int32.ofInt (i : Int))), some (.int (Int32.ofInt (s (42 + i) 2))), some (.int (Int32.ofInt (s (42 + i) 4))), j8] [.int (Int32.ofInt v_25), .int (Int32.ofInt ((s (42 + i) 2) * (14 - (s (42 + i) 3)))), .int (Int32.ofInt v_19)] (zN L X (zhi s) R G nc ns) Q
                  have eo : o_24 = o_17 := (by omega)
                  have ev : v_25 = s o_17 3 := (by rw [← eo]; assumption)
                  rw [ev]
                  refine zW.run 1 (pc' := 425) (ls' := [some (.ref 6), some (.int (Int32.ofInt n)), some (.int (Int32.ofInt w)), some (.ref P), some (.int (Int32.ofInt (a + v3))), some (.int (Int32.ofInt (i : Int))), some (.int (Int32.ofInt (s (42 + i) 2))), some (.int (Int32.ofInt (s (42 + i) 4))), j8]) (st' := [.int (Int32.ofInt 50), .int (Int32.ofInt (s o_17 3)), .int (Int32.ofInt ((s (42 + i) 2) * (14 - (s (42 + i) 3)))), .int (Int32.ofInt v_19)]) (σ' := (zN L X (zhi s) R G nc ns)) (fun n => rfl) ?_
                  refine zW.jadd rfl ?_
                  refine zW.jmul rfl ?_
                  refine zW.run 1 (pc' := 429) (ls' := [some (.ref 6), some (.int (Int32.ofInt n)), some (.int (Int32.ofInt w)), some (.ref P), some (.int (Int32.ofInt (a + v3))), some (.int (Int32.ofInt (i : Int))), some (.int (Int32.ofInt (s (42 + i) 2))), some (.int (Int32.ofInt (s (42 + i) 4))), j8]) (st' := [.int (Int32.ofInt 100), .int (Int32.ofInt (((s (42 + i) 2) * (14 - (s (42 + i) 3))) * ((s o_17 3) + 50))), .int (Int32.ofInt v_19)]) (σ' := (zN L X (zhi s) R G nc ns)) (fun n => rfl) ?_
                  refine zW.jdiv rfl (by omega) ?_
                  refine zW.jsame_eq rfl (by omega) ?_
                  exact (hQ0 (a + v3) (some (.int (Int32.ofInt (s (42 + i) 2)))) (some (.int (Int32.ofInt (s (42 + i) 4)))) j8 (by omega) (by omega))
                · skip
                  refine zW.run 1 (pc' := 389) (ls' := [some (.ref 6), some (.int (Int32.ofInt n)), some (.int (Int32.ofInt w)), some (.ref P), some (.int (Int32.ofInt (a + v3))), some (.int (Int32.ofInt (i : Int))), some (.int (Int32.ofInt (s (42 + i) 2))), some (.int (Int32.ofInt (s (42 + i) 4))), j8]) (st' := [.int (Int32.ofInt 0)]) (σ' := (zN L X (zhi s) R G nc ns)) (fun n => rfl) ?_
                  exfalso
                  omega
              refine zW.jcmp_ne rfl (by omega) (fun c29 => ?_) (fun c29 => ?_)
              · skip
                refine zW.run 1 (pc' := 385) (ls' := [some (.ref 6), some (.int (Int32.ofInt n)), some (.int (Int32.ofInt w)), some (.ref P), some (.int (Int32.ofInt (a + v3))), some (.int (Int32.ofInt (i : Int))), some (.int (Int32.ofInt (s (42 + i) 2))), some (.int (Int32.ofInt (s (42 + i) 4))), j8]) (st' := [.int (Int32.ofInt 0), .int (Int32.ofInt v10)]) (σ' := (zN L X (zhi s) R G nc ns)) (fun n => rfl) ?_
                exact J14 0 (by omega)
              · skip
                refine zW.run 2 (pc' := 385) (ls' := [some (.ref 6), some (.int (Int32.ofInt n)), some (.int (Int32.ofInt w)), some (.ref P), some (.int (Int32.ofInt (a + v3))), some (.int (Int32.ofInt (i : Int))), some (.int (Int32.ofInt (s (42 + i) 2))), some (.int (Int32.ofInt (s (42 + i) 4))), j8]) (st' := [.int (Int32.ofInt 1), .int (Int32.ofInt v10)]) (σ' := (zN L X (zhi s) R G nc ns)) (fun n => rfl) ?_
                exact J14 1 (by omega)
            refine zW.jif_eq rfl (by omega) (fun c30 => ?_) (fun c30 => ?_)
            · skip
              refine zW.run 2 (pc' := 369) (ls' := [some (.ref 6), some (.int (Int32.ofInt n)), some (.int (Int32.ofInt w)), some (.ref P), some (.int (Int32.ofInt (a + v3))), some (.int (Int32.ofInt (i : Int))), some (.int (Int32.ofInt (s (42 + i) 2))), some (.int (Int32.ofInt (s (42 + i) 4))), j8]) (st' := [.int (Int32.ofInt 1)]) (σ' := (zN L X (zhi s) R G nc ns)) (fun n => rfl) ?_
              exact J11 1 (by omega)
            · skip
              refine zW.run 2 (pc' := 355) (ls' := [some (.ref 6), some (.int (Int32.ofInt n)), some (.int (Int32.ofInt w)), some (.ref P), some (.int (Int32.ofInt (a + v3))), some (.int (Int32.ofInt (i : Int))), some (.int (Int32.ofInt (s (42 + i) 2))), some (.int (Int32.ofInt (s (42 + i) 4))), j8]) (st' := [.int (Int32.ofInt 2), .int (Int32.ofInt (s (42 + i) 4))]) (σ' := (zN L X (zhi s) R G nc ns)) (fun n => rfl) ?_
              refine zW.jcmp_eq rfl (by omega) (fun c31 => ?_) (fun c31 => ?_)
              · skip
                refine zW.run 2 (pc' := 369) (ls' := [some (.ref 6), some (.int (Int32.ofInt n)), some (.int (Int32.ofInt w)), some (.ref P), some (.int (Int32.ofInt (a + v3))), some (.int (Int32.ofInt (i : Int))), some (.int (Int32.ofInt (s (42 + i) 2))), some (.int (Int32.ofInt (s (42 + i) 4))), j8]) (st' := [.int (Int32.ofInt 1)]) (σ' := (zN L X (zhi s) R G nc ns)) (fun n => rfl) ?_
                exact J11 1 (by omega)
              · skip
                refine zW.run 2 (pc' := 361) (ls' := [some (.ref 6), some (.int (Int32.ofInt n)), some (.int (Int32.ofInt w)), some (.ref P), some (.int (Int32.ofInt (a + v3))), some (.int (Int32.ofInt (i : Int))), some (.int (Int32.ofInt (s (42 + i) 2))), some (.int (Int32.ofInt (s (42 + i) 4))), j8]) (st' := [.int (Int32.ofInt 3), .int (Int32.ofInt (s (42 + i) 4))]) (σ' := (zN L X (zhi s) R G nc ns)) (fun n => rfl) ?_
                refine zW.jcmp_ne rfl (by omega) (fun c32 => ?_) (fun c32 => ?_)
                · skip
                  refine zW.run 1 (pc' := 369) (ls' := [some (.ref 6), some (.int (Int32.ofInt n)), some (.int (Int32.ofInt w)), some (.ref P), some (.int (Int32.ofInt (a + v3))), some (.int (Int32.ofInt (i : Int))), some (.int (Int32.ofInt (s (42 + i) 2))), some (.int (Int32.ofInt (s (42 + i) 4))), j8]) (st' := [.int (Int32.ofInt 0)]) (σ' := (zN L X (zhi s) R G nc ns)) (fun n => rfl) ?_
                  exact J11 0 (by omega)
                · skip
                  refine zW.run 2 (pc' := 369) (ls' := [some (.ref 6), some (.int (Int32.ofInt n)), some (.int (Int32.ofInt w)), some (.ref P), some (.int (Int32.ofInt (a + v3))), some (.int (Int32.ofInt (i : Int))), some (.int (Int32.ofInt (s (42 + i) 2))), some (.int (Int32.ofInt (s (42 + i) 4))), j8]) (st' := [.int (Int32.ofInt 1)]) (σ' := (zN L X (zhi s) R G nc ns)) (fun n => rfl) ?_
                  exact J11 1 (by omega)
  refine zW.jif_le rfl (by omega) (fun c33 => ?_) (fun c33 => ?_)
  · skip
    refine zW.run 1 (pc' := 309) (ls' := [some (.ref 6), some (.int (Int32.ofInt n)), some (.int (Int32.ofInt w)), some (.ref P), some (.int (Int32.ofInt a)), some (.int (Int32.ofInt (i : Int))), some (.int (Int32.ofInt (s (42 + i) 2))), some (.int (Int32.ofInt (s (42 + i) 4))), j8]) (st' := [.int (Int32.ofInt 0), .int (Int32.ofInt a)]) (σ' := (zN L X (zhi s) R G nc ns)) (fun n => rfl) ?_
    exact J4 0 (by omega)
  · skip
    refine zW.run 2 (pc' := 309) (ls' := [some (.ref 6), some (.int (Int32.ofInt n)), some (.int (Int32.ofInt w)), some (.ref P), some (.int (Int32.ofInt a)), some (.int (Int32.ofInt (i : Int))), some (.int (Int32.ofInt (s (42 + i) 2))), some (.int (Int32.ofInt (s (42 + i) 4))), j8]) (st' := [.int (Int32.ofInt 1), .int (Int32.ofInt a)]) (σ' := (zN L X (zhi s) R G nc ns)) (fun n => rfl) ?_
    exact J4 1 (by omega)
end ZB
