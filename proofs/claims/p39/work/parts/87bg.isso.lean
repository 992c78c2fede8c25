/-! a part of what must be so: t (printed by program) -/
section ZB
variable {ro : Nat → Int32 → zS → Option (zO × zS)} {L : Nat} {X : zK} {s : zJ} {R : Nat → Nat → Option Nat} {G : Nat → Nat → Int64} {nc ns : Nat} {Q : zO → zS → Prop} {g : Nat → Int} {U F T B ph : Int}
set_option maxRecDepth 20000 in
set_option maxHeartbeats 20000000 in
theorem t_L_isSo_t (S : zSR R) (V : zV g U F T B ph s) {n : Int} {w : Int} {a : Int} {b : Int} {P : Nat} {j6 : Option Value} {j7 : Option Value} {j8 : Option Value} (p0 : n = g 2) (p1 : a = zcp s 8) (p2 : b = zrp s 6) (hQ0 : ∀ (u3 : Option Value) (u4 : Option Value) (u5 : Option Value) (u8 : Option Value) (d : Int) (e : Int), 0 ≤ d ∧ d ≤ 5 → 0 ≤ e ∧ e ≤ 144 → (0 < e → 3 ≤ d) → e = zcn s 6 (g 2).toNat → zW zro 165 854 [some (.ref 6), some (.int (Int32.ofInt n)), some (.int (Int32.ofInt w)), u3, u4, u5, some (.int (Int32.ofInt d)), some (.int (Int32.ofInt e)), u8] [] (zN L X (zhi s) R G nc ns) Q) : zW zro 165 744 [some (.ref 6), some (.int (Int32.ofInt n)), some (.int (Int32.ofInt w)), some (.ref P), some (.int (Int32.ofInt a)), some (.int (Int32.ofInt b)), j6, j7, j8] [] (zN L X (zhi s) R G nc ns) Q := by
  have f1 := zA_geo (zV_zA V)
  have hB0 := zV_B V
  have hcc := zcp_c V
  have hrr := zrp_c V
  refine zW.run 2 (pc' := 746) (ls' := [some (.ref 6), some (.int (Int32.ofInt n)), some (.int (Int32.ofInt w)), some (.ref P), some (.int (Int32.ofInt a)), some (.int (Int32.ofInt b)), j6, j7, j8]) (st' := [.int (Int32.ofInt 3), .ref 6]) (σ' := (zN L X (zhi s) R G nc ns)) (fun n => rfl) ?_
  refine zW.callV rfl (by decide) rfl rfl rfl rfl rfl (Nat.le_of_ble_eq_true rfl) ?_
  refine t_S_ofSiege_3 S V (fun v_2 f3 f4 f5 => ?_)
  show zW zro 165 749 [some (.ref 6), some (.int (Int32.ofInt n)), some (.int (Int32.ofInt w)), some (.ref P), some (.int (Int32.ofInt a)), some (.int (Int32.ofInt b)), j6, j7, j8] [.int (Int32.ofInt v_2)] (zN L X (zhi s) R G nc ns) Q
  refine zW.run 4 (pc' := 755) (ls' := [some (.ref 6), some (.int (Int32.ofInt n)), some (.int (Int32.ofInt w)), some (.ref P), some (.int (Int32.ofInt a)), some (.int (Int32.ofInt b)), some (.int (Int32.ofInt v_2)), j7, j8]) (st' := [.int (Int32.ofInt 6), .int (Int32.ofInt n), .ref 6]) (σ' := (zN L X (zhi s) R G nc ns)) (fun n => rfl) ?_
  refine zW.callS rfl rfl rfl rfl rfl (Nat.le_of_ble_eq_true rfl) ?_
  refine t_L_count S V (n := n) (x := 6) (by omega) (by omega) (fun v_6 f7 f8 => ?_)
  show zW zro 165 758 [some (.ref 6), some (.int (Int32.ofInt n)), some (.int (Int32.ofInt w)), some (.ref P), some (.int (Int32.ofInt a)), some (.int (Int32.ofInt b)), some (.int (Int32.ofInt v_2)), j7, j8] [.int (Int32.ofInt v_6)] (zN L X (zhi s) R G nc ns) Q
  refine zW.run 4 (pc' := 764) (ls' := [some (.ref 6), some (.int (Int32.ofInt n)), some (.int (Int32.ofInt w)), some (.ref P), some (.int (Int32.ofInt a)), some (.int (Int32.ofInt b)), some (.int (Int32.ofInt v_2)), some (.int (Int32.ofInt v_6)), j8]) (st' := [.int (Int32.ofInt 6), .int (Int32.ofInt 0), .ref 6]) (σ' := (zN L X (zhi s) R G nc ns)) (fun n => rfl) ?_
  refine zW.callV rfl (by decide) rfl rfl rfl rfl rfl (Nat.le_of_ble_eq_true rfl) ?_
  refine t_S_ofSide_0_6 S V (fun v_9 f10 f11 => ?_)
  show zW zro 165 767 [some (.ref 6), some (.int (Int32.ofInt n)), some (.int (Int32.ofInt w)), some (.ref P), some (.int (Int32.ofInt a)), some (.int (Int32.ofInt b)), some (.int (Int32.ofInt v_2)), some (.int (Int32.ofInt v_6)), j8] [.int (Int32.ofInt v_9)] (zN L X (zhi s) R G nc ns) Q
  refine zW.run 3 (pc' := 771) (ls' := [some (.ref 6), some (.int (Int32.ofInt n)), some (.int (Int32.ofInt w)), some (.ref P), some (.int (Int32.ofInt a)), some (.int (Int32.ofInt b)), some (.int (Int32.ofInt v_2)), some (.int (Int32.ofInt v_6)), j8]) (st' := [.int (Int32.ofInt 6), .int (Int32.ofInt 1), .ref 6, .int (Int32.ofInt v_9)]) (σ' := (zN L X (zhi s) R G nc ns)) (fun n => rfl) ?_
  refine zW.callV rfl (by decide) rfl rfl rfl rfl rfl (Nat.le_of_ble_eq_true rfl) ?_
  refine t_S_ofSide_1_6 S V (fun v_12 f13 f14 => ?_)
  show zW zro 165 774 [some (.ref 6), some (.int (Int32.ofInt n)), some (.int (Int32.ofInt w)), some (.ref P), some (.int (Int32.ofInt a)), some (.int (Int32.ofInt b)), some (.int (Int32.ofInt v_2)), some (.int (Int32.ofInt v_6)), j8] [.int (Int32.ofInt v_12), .int (Int32.ofInt v_9)] (zN L X (zhi s) R G nc ns) Q
  refine zW.jadd rfl ?_
  refine zW.run 1 (pc' := 777) (ls' := [some (.ref 6), some (.int (Int32.ofInt n)), some (.int (Int32.ofInt w)), some (.ref P), some (.int (Int32.ofInt a)), some (.int (Int32.ofInt b)), some (.int (Int32.ofInt v_2)), some (.int (Int32.ofInt v_6)), j8]) (st' := [.int (Int32.ofInt a), .int (Int32.ofInt (v_9 + v_12))]) (σ' := (zN L X (zhi s) R G nc ns)) (fun n => rfl) ?_
  refine zW.jcmp_ne rfl (by omega) (fun c15 => ?_) (fun c15 => ?_)
  · skip
    refine zW.run 1 (pc' := 866) (ls' := [some (.ref 6), some (.int (Int32.ofInt n)), some (.int (Int32.ofInt w)), some (.ref P), some (.int (Int32.ofInt a)), some (.int (Int32.ofInt b)), some (.int (Int32.ofInt v_2)), some (.int (Int32.ofInt v_6)), j8]) (st' := [.int (Int32.ofInt 0)]) (σ' := (zN L X (zhi s) R G nc ns)) (fun n => rfl) ?_
    exfalso
    omega
  · skip
    refine zW.run 3 (pc' := 784) (ls' := [some (.ref 6), some (.int (Int32.ofInt n)), some (.int (Int32.ofInt w)), some (.ref P), some (.int (Int32.ofInt a)), some (.int (Int32.ofInt b)), some (.int (Int32.ofInt v_2)), some (.int (Int32.ofInt v_6)), j8]) (st' := [.int (Int32.ofInt 12), .int (Int32.ofInt 0), .ref 6]) (σ' := (zN L X (zhi s) R G nc ns)) (fun n => rfl) ?_
    refine zW.callV rfl (by decide) rfl rfl rfl rfl rfl (Nat.le_of_ble_eq_true rfl) ?_
    refine t_S_ofSide_0_12 S V (fun v_16 f17 f18 => ?_)
    show zW zro 165 787 [some (.ref 6), some (.int (Int32.ofInt n)), some (.int (Int32.ofInt w)), some (.ref P), some (.int (Int32.ofInt a)), some (.int (Int32.ofInt b)), some (.int (Int32.ofInt v_2)), some (.int (Int32.ofInt v_6)), j8] [.int (Int32.ofInt v_16)] (zN L X (zhi s) R G nc ns) Q
    refine zW.run 3 (pc' := 791) (ls' := [some (.ref 6), some (.int (Int32.ofInt n)), some (.int (Int32.ofInt w)), some (.ref P), some (.int (Int32.ofInt a)), some (.int (Int32.ofInt b)), some (.int (Int32.ofInt v_2)), some (.int (Int32.ofInt v_6)), j8]) (st' := [.int (Int32.ofInt 12), .int (Int32.ofInt 1), .ref 6, .int (Int32.ofInt v_16)]) (σ' := (zN L X (zhi s) R G nc ns)) (fun n => rfl) ?_
    refine zW.callV rfl (by decide) rfl rfl rfl rfl rfl (Nat.le_of_ble_eq_true rfl) ?_
    refine t_S_ofSide_1_12 S V (fun v_19 f20 f21 => ?_)
    show zW zro 165 794 [some (.ref 6), some (.int (Int32.ofInt n)), some (.int (Int32.ofInt w)), some (.ref P), some (.int (Int32.ofInt a)), some (.int (Int32.ofInt b)), some (.int (Int32.ofInt v_2)), some (.int (Int32.ofInt v_6)), j8] [.int (Int32.ofInt v_19), .int (Int32.ofInt v_16)] (zN L X (zhi s) R G nc ns) Q
    refine zW.jadd rfl ?_
    refine zW.run 1 (pc' := 797) (ls' := [some (.ref 6), some (.int (Int32.ofInt n)), some (.int (Int32.ofInt w)), some (.ref P), some (.int (Int32.ofInt a)), some (.int (Int32.ofInt b)), some (.int (Int32.ofInt v_2)), some (.int (Int32.ofInt v_6)), j8]) (st' := [.int (Int32.ofInt b), .int (Int32.ofInt (v_16 + v_19))]) (σ' := (zN L X (zhi s) R G nc ns)) (fun n => rfl) ?_
    refine zW.jcmp_ne rfl (by omega) (fun c22 => ?_) (fun c22 => ?_)
    · skip
      refine zW.run 1 (pc' := 866) (ls' := [some (.ref 6), some (.int (Int32.ofInt n)), some (.int (Int32.ofInt w)), some (.ref P), some (.int (Int32.ofInt a)), some (.int (Int32.ofInt b)), some (.int (Int32.ofInt v_2)), some (.int (Int32.ofInt v_6)), j8]) (st' := [.int (Int32.ofInt 0)]) (σ' := (zN L X (zhi s) R G nc ns)) (fun n => rfl) ?_
      exfalso
      omega
    · skip
      refine zW.run 2 (pc' := 803) (ls' := [some (.ref 6), some (.int (Int32.ofInt n)), some (.int (Int32.ofInt w)), some (.ref P), some (.int (Int32.ofInt a)), some (.int (Int32.ofInt b)), some (.int (Int32.ofInt v_2)), some (.int (Int32.ofInt v_6)), j8]) (st' := [.int (Int32.ofInt 11), .ref 6]) (σ' := (zN L X (zhi s) R G nc ns)) (fun n => rfl) ?_
      refine zW.callV rfl (by decide) rfl rfl rfl rfl rfl (Nat.le_of_ble_eq_true rfl) ?_
      refine t_S_ofSiege_11 S V (fun v_23 f24 f25 => ?_)
      show zW zro 165 806 [some (.ref 6), some (.int (Int32.ofInt n)), some (.int (Int32.ofInt w)), some (.ref P), some (.int (Int32.ofInt a)), some (.int (Int32.ofInt b)), some (.int (Int32.ofInt v_2)), some (.int (Int32.ofInt v_6)), j8] [.int (Int32.ofInt v_23)] (zN L X (zhi s) R G nc ns) Q
      refine zW.run 3 (pc' := 809) (ls' := [some (.ref 6), some (.int (Int32.ofInt n)), some (.int (Int32.ofInt w)), some (.ref P), some (.int (Int32.ofInt a)), some (.int (Int32.ofInt b)), some (.int (Int32.ofInt v_2)), some (.int (Int32.ofInt v_6)), j8]) (st' := [.int (Int32.ofInt 5), .int (Int32.ofInt n), .ref 6, .int (Int32.ofInt v_23)]) (σ' := (zN L X (zhi s) R G nc ns)) (fun n => rfl) ?_
      refine zW.callS rfl rfl rfl rfl rfl (Nat.le_of_ble_eq_true rfl) ?_
      refine t_L_count S V (n := n) (x := 5) (by omega) (by omega) (fun v_26 f27 f28 => ?_)
      show zW zro 165 812 [some (.ref 6), some (.int (Int32.ofInt n)), some (.int (Int32.ofInt w)), some (.ref P), some (.int (Int32.ofInt a)), some (.int (Int32.ofInt b)), some (.int (Int32.ofInt v_2)), some (.int (Int32.ofInt v_6)), j8] [.int (Int32.ofInt v_26), .int (Int32.ofInt v_23)] (zN L X (zhi s) R G nc ns) Q
      refine zW.jcmp_ne rfl (by omega) (fun c29 => ?_) (fun c29 => ?_)
      · skip
        refine zW.run 1 (pc' := 866) (ls' := [some (.ref 6), some (.int (Int32.ofInt n)), some (.int (Int32.ofInt w)), some (.ref P), some (.int (Int32.ofInt a)), some (.int (Int32.ofInt b)), some (.int (Int32.ofInt v_2)), some (.int (Int32.ofInt v_6)), j8]) (st' := [.int (Int32.ofInt 0)]) (σ' := (zN L X (zhi s) R G nc ns)) (fun n => rfl) ?_
        exfalso
        omega
      · skip
        refine zW.run 2 (pc' := 818) (ls' := [some (.ref 6), some (.int (Int32.ofInt n)), some (.int (Int32.ofInt w)), some (.ref P), some (.int (Int32.ofInt a)), some (.int (Int32.ofInt b)), some (.int (Int32.ofInt v_2)), some (.int (Int32.ofInt v_6)), j8]) (st' := [.int (Int32.ofInt 10), .ref 6]) (σ' := (zN L X (zhi s) R G nc ns)) (fun n => rfl) ?_
        refine zW.callV rfl (by decide) rfl rfl rfl rfl rfl (Nat.le_of_ble_eq_true rfl) ?_
        refine t_S_ofSiege_10 S V (fun v_30 f31 f32 => ?_)
        show zW zro 165 821 [some (.ref 6), some (.int (Int32.ofInt n)), some (.int (Int32.ofInt w)), some (.ref P), some (.int (Int32.ofInt a)), some (.int (Int32.ofInt b)), some (.int (Int32.ofInt v_2)), some (.int (Int32.ofInt v_6)), j8] [.int (Int32.ofInt v_30)] (zN L X (zhi s) R G nc ns) Q
        refine zW.run 1 (pc' := 823) (ls' := [some (.ref 6), some (.int (Int32.ofInt n)), some (.int (Int32.ofInt w)), some (.ref P), some (.int (Int32.ofInt a)), some (.int (Int32.ofInt b)), some (.int (Int32.ofInt v_2)), some (.int (Int32.ofInt v_6)), j8]) (st' := [.int (Int32.ofInt v_6), .int (Int32.ofInt v_30)]) (σ' := (zN L X (zhi s) R G nc ns)) (fun n => rfl) ?_
        refine zW.jcmp_ne rfl (by omega) (fun c33 => ?_) (fun c33 => ?_)
        · skip
          refine zW.run 1 (pc' := 866) (ls' := [some (.ref 6), some (.int (Int32.ofInt n)), some (.int (Int32.ofInt w)), some (.ref P), some (.int (Int32.ofInt a)), some (.int (Int32.ofInt b)), some (.int (Int32.ofInt v_2)), some (.int (Int32.ofInt v_6)), j8]) (st' := [.int (Int32.ofInt 0)]) (σ' := (zN L X (zhi s) R G nc ns)) (fun n => rfl) ?_
          exfalso
          omega
        · skip
          refine zW.run 1 (pc' := 828) (ls' := [some (.ref 6), some (.int (Int32.ofInt n)), some (.int (Int32.ofInt w)), some (.ref P), some (.int (Int32.ofInt a)), some (.int (Int32.ofInt b)), some (.int (Int32.ofInt v_2)), some (.int (Int32.ofInt v_6)), j8]) (st' := [.int (Int32.ofInt v_2)]) (σ' := (zN L X (zhi s) R G nc ns)) (fun n => rfl) ?_
          refine zW.jif_lt rfl (by omega) (fun c34 => ?_) (fun c34 => ?_)
          · skip
            refine zW.run 1 (pc' := 866) (ls' := [some (.ref 6), some (.int (Int32.ofInt n)), some (.int (Int32.ofInt w)), some (.ref P), some (.int (Int32.ofInt a)), some (.int (Int32.ofInt b)), some (.int (Int32.ofInt v_2)), some (.int (Int32.ofInt v_6)), j8]) (st' := [.int (Int32.ofInt 0)]) (σ' := (zN L X (zhi s) R G nc ns)) (fun n => rfl) ?_
            exfalso
            omega
          · skip
            refine zW.run 2 (pc' := 834) (ls' := [some (.ref 6), some (.int (Int32.ofInt n)), some (.int (Int32.ofInt w)), some (.ref P), some (.int (Int32.ofInt a)), some (.int (Int32.ofInt b)), some (.int (Int32.ofInt v_2)), some (.int (Int32.ofInt v_6)), j8]) (st' := [.int (Int32.ofInt 5), .int (Int32.ofInt v_2)]) (σ' := (zN L X (zhi s) R G nc ns)) (fun n => rfl) ?_
            refine zW.jcmp_gt rfl (by omega) (fun c35 => ?_) (fun c35 => ?_)
            · skip
              refine zW.run 1 (pc' := 866) (ls' := [some (.ref 6), some (.int (Int32.ofInt n)), some (.int (Int32.ofInt w)), some (.ref P), some (.int (Int32.ofInt a)), some (.int (Int32.ofInt b)), some (.int (Int32.ofInt v_2)), some (.int (Int32.ofInt v_6)), j8]) (st' := [.int (Int32.ofInt 0)]) (σ' := (zN L X (zhi s) R G nc ns)) (fun n => rfl) ?_
              exfalso
              omega
            · skip
              refine zW.run 2 (pc' := 840) (ls' := [some (.ref 6), some (.int (Int32.ofInt n)), some (.int (Int32.ofInt w)), some (.ref P), some (.int (Int32.ofInt a)), some (.int (Int32.ofInt b)), some (.int (Int32.ofInt v_2)), some (.int (Int32.ofInt v_6)), j8]) (st' := [.int (Int32.ofInt 3), .int (Int32.ofInt v_2)]) (σ' := (zN L X (zhi s) R G nc ns)) (fun n => rfl) ?_
              refine zW.jcmp_eq rfl (by omega) (fun c36 => ?_) (fun c36 => ?_)
              · skip
                refine zW.run 1 (pc' := 851) (ls' := [some (.ref 6), some (.int (Int32.ofInt n)), some (.int (Int32.ofInt w)), some (.ref P), some (.int (Int32.ofInt a)), some (.int (Int32.ofInt b)), some (.int (Int32.ofInt v_2)), some (.int (Int32.ofInt v_6)), j8]) (st' := [.int (Int32.ofInt v_6)]) (σ' := (zN L X (zhi s) R G nc ns)) (fun n => rfl) ?_
                refine zW.jif_eq rfl (by omega) (fun c37 => ?_) (fun c37 => ?_)
                · skip
                  refine zW.run 1 (pc' := 866) (ls' := [some (.ref 6), some (.int (Int32.ofInt n)), some (.int (Int32.ofInt w)), some (.ref P), some (.int (Int32.ofInt a)), some (.int (Int32.ofInt b)), some (.int (Int32.ofInt v_2)), some (.int (Int32.ofInt v_6)), j8]) (st' := [.int (Int32.ofInt 0)]) (σ' := (zN L X (zhi s) R G nc ns)) (fun n => rfl) ?_
                  exfalso
                  omega
                · skip
                  exact (hQ0 (some (.ref P)) (some (.int (Int32.ofInt a))) (some (.int (Int32.ofInt b))) j8 v_2 v_6 (by omega) (by omega) (by omega) (by omega))
              · skip
                refine zW.run 2 (pc' := 846) (ls' := [some (.ref 6), some (.int (Int32.ofInt n)), some (.int (Int32.ofInt w)), some (.ref P), some (.int (Int32.ofInt a)), some (.int (Int32.ofInt b)), some (.int (Int32.ofInt v_2)), some (.int (Int32.ofInt v_6)), j8]) (st' := [.int (Int32.ofInt 4), .int (Int32.ofInt v_2)]) (σ' := (zN L X (zhi s) R G nc ns)) (fun n => rfl) ?_
                refine zW.jcmp_ne rfl (by omega) (fun c38 => ?_) (fun c38 => ?_)
                · skip
                  exact (hQ0 (some (.ref P)) (some (.int (Int32.ofInt a))) (some (.int (Int32.ofInt b))) j8 v_2 v_6 (by omega) (by omega) (by omega) (by omega))
                · skip
                  refine zW.run 1 (pc' := 851) (ls' := [some (.ref 6), some (.int (Int32.ofInt n)), some (.int (Int32.ofInt w)), some (.ref P), some (.int (Int32.ofInt a)), some (.int (Int32.ofInt b)), some (.int (Int32.ofInt v_2)), some (.int (Int32.ofInt v_6)), j8]) (st' := [.int (Int32.ofInt v_6)]) (σ' := (zN L X (zhi s) R G nc ns)) (fun n => rfl) ?_
                  refine zW.jif_eq rfl (by omega) (fun c39 => ?_) (fun c39 => ?_)
                  · skip
                    refine zW.run 1 (pc' := 866) (ls' := [some (.ref 6), some (.int (Int32.ofInt n)), some (.int (Int32.ofInt w)), some (.ref P), some (.int (Int32.ofInt a)), some (.int (Int32.ofInt b)), some (.int (Int32.ofInt v_2)), some (.int (Int32.ofInt v_6)), j8]) (st' := [.int (Int32.ofInt 0)]) (σ' := (zN L X (zhi s) R G nc ns)) (fun n => rfl) ?_
                    exfalso
                    omega
                  · skip
                    exact (hQ0 (some (.ref P)) (some (.int (Int32.ofInt a))) (some (.int (Int32.ofInt b))) j8 v_2 v_6 (by omega) (by omega) (by omega) (by omega))
end ZB
