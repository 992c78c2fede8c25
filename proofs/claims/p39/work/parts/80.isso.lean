/-! all that must be so (printed by program) -/
section ZB
variable {ro : Nat → Int32 → zS → Option (zO × zS)} {L : Nat} {X : zK} {s : zJ} {R : Nat → Nat → Option Nat} {G : Nat → Nat → Int64} {nc ns : Nat} {Q : zO → zS → Prop} {g : Nat → Int} {U F T B ph : Int}
set_option maxRecDepth 20000 in
set_option maxHeartbeats 20000000 in
theorem t_S_sideFact_3 (S : zSR R) (V : zV g U F T B ph s) {x : Int} (p0 : x = 0 ∨ x = 1) (hQ0 : ∀ (o : Nat) (v : Int), x = 1 ∧ o = 22 ∨ ¬ x = 1 ∧ o = 21 → v = s o 3 → 0 ≤ v ∧ v ≤ 100 → Q (.inl (some (.int (Int32.ofInt v)))) (zN L X (zhi s) R G nc ns)) : zW ro 28 0 (zfst [.ref 6, .int (Int32.ofInt x), .int (Int32.ofInt 3)] 4) [] (zN L X (zhi s) R G nc ns) Q := by
  show zW ro 28 0 [some (.ref 6), some (.int (Int32.ofInt x)), some (.int (Int32.ofInt 3)), none] [] (zN L X (zhi s) R G nc ns) Q
  have f1 := zA_geo (zV_zA V)
  have hB0 := zV_B V
  refine zW.run 1 (pc' := 1) (ls' := [some (.ref 6), some (.int (Int32.ofInt x)), some (.int (Int32.ofInt 3)), none]) (st' := [.ref 6]) (σ' := (zN L X (zhi s) R G nc ns)) (fun n => rfl) ?_
  refine zW.getf (v := .ref 7) rfl rfl (zr_6_0 S) ?_
  refine zW.run 1 (pc' := 5) (ls' := [some (.ref 6), some (.int (Int32.ofInt x)), some (.int (Int32.ofInt 3)), none]) (st' := [.int (Int32.ofInt x), .ref 7]) (σ' := (zN L X (zhi s) R G nc ns)) (fun n => rfl) ?_
  refine zW.callV rfl (by decide) rfl rfl rfl rfl rfl (Nat.le_of_ble_eq_true rfl) ?_
  refine t_Siege_of S (x := x) (by omega) (fun o_2 f3 => ?_)
  show zW ro 28 8 [some (.ref 6), some (.int (Int32.ofInt x)), some (.int (Int32.ofInt 3)), none] [.ref o_2] (zN L X (zhi s) R G nc ns) Q
  refine zW.run 2 (pc' := 10) (ls' := [some (.ref 6), some (.int (Int32.ofInt x)), some (.int (Int32.ofInt 3)), some (.ref o_2)]) (st' := [.int (Int32.ofInt 3)]) (σ' := (zN L X (zhi s) R G nc ns)) (fun n => rfl) ?_
  refine zW.go (pc' := 87) (ls' := [some (.ref 6), some (.int (Int32.ofInt x)), some (.int (Int32.ofInt 3)), some (.ref o_2)]) (st' := []) (σ' := (zN L X (zhi s) R G nc ns)) rfl (fun rec => rfl) ?_
  refine zW.run 1 (pc' := 88) (ls' := [some (.ref 6), some (.int (Int32.ofInt x)), some (.int (Int32.ofInt 3)), some (.ref o_2)]) (st' := [.ref o_2]) (σ' := (zN L X (zhi s) R G nc ns)) (fun n => rfl) ?_
  have f4 := zV_sid V (o := o_2) (by omega)
  refine zW.jget (v := (s o_2 3)) rfl (zk_sid (by omega)) (fun _ _ _ => rfl) rfl ?_
  exact zW.jret rfl rfl (hQ0 o_2 (s o_2 3) (by omega) (rfl) (by omega))
set_option maxRecDepth 20000 in
set_option maxHeartbeats 20000000 in
theorem t_S_ofSide_3 (S : zSR R) (V : zV g U F T B ph s) {x : Int} (p0 : x = 0 ∨ x = 1) (hQ0 : ∀ (o : Nat) (v : Int), x = 1 ∧ o = 22 ∨ ¬ x = 1 ∧ o = 21 → v = s o 3 → 0 ≤ v ∧ v ≤ 100 → Q (.inl (some (.int (Int32.ofInt v)))) (zN L X (zhi s) R G nc ns)) : zW ro 21 0 (zfst [.ref 6, .int (Int32.ofInt x), .int (Int32.ofInt 3)] 3) [] (zN L X (zhi s) R G nc ns) Q := by
  show zW ro 21 0 [some (.ref 6), some (.int (Int32.ofInt x)), some (.int (Int32.ofInt 3))] [] (zN L X (zhi s) R G nc ns) Q
  have f1 := zA_geo (zV_zA V)
  have hB0 := zV_B V
  refine zW.run 1 (pc' := 1) (ls' := [some (.ref 6), some (.int (Int32.ofInt x)), some (.int (Int32.ofInt 3))]) (st' := [.int (Int32.ofInt x)]) (σ' := (zN L X (zhi s) R G nc ns)) (fun n => rfl) ?_
  refine zW.callS rfl rfl rfl rfl rfl (Nat.le_of_ble_eq_true rfl) ?_
  refine t_S_isSide S (x := x) (by omega) (fun f2 => ?_) (fun f3 => ?_)
  · skip
    show zW ro 21 4 [some (.ref 6), some (.int (Int32.ofInt x)), some (.int (Int32.ofInt 3))] [.int (Int32.ofInt 1)] (zN L X (zhi s) R G nc ns) Q
    refine zW.run 9 (pc' := 31) (ls' := [some (.ref 6), some (.int (Int32.ofInt x)), some (.int (Int32.ofInt 3))]) (st' := [.int (Int32.ofInt 3), .int (Int32.ofInt x), .ref 6]) (σ' := (zN L X (zhi s) R G nc ns)) (fun n => rfl) ?_
    refine zW.callV rfl (by decide) rfl rfl rfl rfl rfl (Nat.le_of_ble_eq_true rfl) ?_
    refine t_S_sideFact_3 S V (x := x) (by omega) (fun o_4 v_5 f6 f7 f8 => ?_)
    show zW ro 21 34 [some (.ref 6), some (.int (Int32.ofInt x)), some (.int (Int32.ofInt 3))] [.int (Int32.ofInt v_5)] (zN L X (zhi s) R G nc ns) Q
    exact zW.jret rfl rfl (hQ0 o_4 v_5 (by omega) (by assumption) (by omega))
  · skip
    show zW ro 21 4 [some (.ref 6), some (.int (Int32.ofInt x)), some (.int (Int32.ofInt 3))] [.int (Int32.ofInt 0)] (zN L X (zhi s) R G nc ns) Q
    refine zW.run 1 (pc' := 17) (ls' := [some (.ref 6), some (.int (Int32.ofInt x)), some (.int (Int32.ofInt 3))]) (st' := []) (σ' := (zN L X (zhi s) R G nc ns)) (fun n => rfl) ?_
    exfalso
    omega
set_option maxRecDepth 20000 in
set_option maxHeartbeats 20000000 in
theorem t_L_isSo (S : zSR R) (V : zV g U F T B ph s) {n : Int} {w : Int} (p0 : n = g 2) (p1 : w = g 6) (p2 : g 8 ≤ 125 + (X.length : Int)) (hQ0 : ∀ (X1 : zK) (R1 : Nat → Nat → Option Nat) (G1 : Nat → Nat → Int64) (s1 : zJ) (m1 : Nat) (m2 : Nat), zV g U F T B ph s1 → zSR R1 → (∀ p f : Nat, p < 125 → s1 p f = s p f) → (∀ p : Nat, p < 125 → R1 p = R p) → (∀ p : Nat, p < 125 → G1 p = G p) → g 8 ≤ 125 + (X1.length : Int) → m1 ≤ nc + 1 → m2 ≤ ns + 2 → Q (.inl (some (.int (Int32.ofInt 1)))) (zN L X1 (zhi s1) R1 G1 m1 m2)) : zW zro 165 0 (zfst [.ref 6, .int (Int32.ofInt n), .int (Int32.ofInt w)] 9) [] (zN L X (zhi s) R G nc ns) Q := by
  show zW zro 165 0 [some (.ref 6), some (.int (Int32.ofInt n)), some (.int (Int32.ofInt w)), none, none, none, none, none, none] [] (zN L X (zhi s) R G nc ns) Q
  have f1 := zA_geo (zV_zA V)
  have hB0 := zV_B V
  refine zW.run 1 (pc' := 1) (ls' := [some (.ref 6), some (.int (Int32.ofInt n)), some (.int (Int32.ofInt w)), none, none, none, none, none, none]) (st' := [.int (Int32.ofInt 2)]) (σ' := (zN L X (zhi s) R G nc ns)) (fun n => rfl) ?_
  refine zW.jnew2 S V (g8 := (g 8)) rfl (by omega) (fun P_2 X2 s2 R2 G2 S2 V2 ha2 hb2 hc2 hd2 hkP_2 he2 hf2 hr2 hg2 => ?_)
  show zW zro 165 3 [some (.ref 6), some (.int (Int32.ofInt n)), some (.int (Int32.ofInt w)), none, none, none, none, none, none] [.ref P_2] (zN L X2 (zhi s2) R2 G2 (nc + 1) (ns + 2)) Q
  refine zW.run 3 (pc' := 7) (ls' := [some (.ref 6), some (.int (Int32.ofInt n)), some (.int (Int32.ofInt w)), some (.ref P_2), some (.int (Int32.ofInt 0)), none, none, none, none]) (st' := []) (σ' := (zN L X2 (zhi s2) R2 G2 (nc + 1) (ns + 2))) (fun n => rfl) ?_
  have J14 : ∀ m : Nat, ∀ (k_3 : Nat) (w4 : Option Value) (w5 : Option Value) (w6 : Option Value) (w7 : Option Value) (s8 : zJ), zV g U F T B ph s8 → (k_3 : Int) ≤ g 2 → (∀ p f : Nat, p < 125 → s8 p f = s p f) → s8 P_2 0 = zml s 0 k_3 12 → s8 P_2 1 = zml s 1 k_3 12 → 145 - k_3 < m → zW zro 165 7 [some (.ref 6), some (.int (Int32.ofInt n)), some (.int (Int32.ofInt w)), some (.ref P_2), some (.int (Int32.ofInt (k_3 : Int))), w4, w5, w6, w7] [] (zN L X2 (zhi s8) R2 G2 (nc + 1) (ns + 2)) Q := by
    intro m
    induction m with
    | zero => intros; omega
    | succ m ih15 =>
      intro k_3 w4 w5 w6 w7 s8 V9 c10 c11 c12 c13 hm16
      refine zW.run 2 (pc' := 10) (ls' := [some (.ref 6), some (.int (Int32.ofInt n)), some (.int (Int32.ofInt w)), some (.ref P_2), some (.int (Int32.ofInt (k_3 : Int))), w4, w5, w6, w7]) (st' := [.int (Int32.ofInt n), .int (Int32.ofInt (k_3 : Int))]) (σ' := (zN L X2 (zhi s8) R2 G2 (nc + 1) (ns + 2))) (fun n => rfl) ?_
      refine zW.jcmp_ge rfl (by omega) (fun c17 => ?_) (fun c17 => ?_)
      · skip
        have cq1 := c11
        have ek : (k_3 : Int) = g 2 := (by omega)
        have e0 : s8 P_2 0 = zmm s8 0 12 := by rw [c12, ek, zml_C V 0]; exact (zmm_eq (fun p f h9 => c11 p f (by omega)) 0).symm
        have e1 : s8 P_2 1 = zmm s8 1 12 := by rw [c13, ek, zml_C V 1]; exact (zmm_eq (fun p f h9 => c11 p f (by omega)) 1).symm
        refine zW.run 4 (pc' := 272) (ls' := [some (.ref 6), some (.int (Int32.ofInt n)), some (.int (Int32.ofInt w)), some (.ref P_2), some (.int (Int32.ofInt 0)), some (.int (Int32.ofInt 0)), w5, w6, w7]) (st' := []) (σ' := (zN L X2 (zhi s8) R2 G2 (nc + 1) (ns + 2))) (fun n => rfl) ?_
        have J26 : ∀ m : Nat, ∀ (i_18 : Nat) (a_19 : Int) (w20 : Option Value) (w21 : Option Value) (w22 : Option Value), i_18 ≤ 8 → 0 ≤ a_19 ∧ a_19 ≤ i_18 → a_19 = zcp s8 i_18 → 9 - i_18 < m → zW zro 165 272 [some (.ref 6), some (.int (Int32.ofInt n)), some (.int (Int32.ofInt w)), some (.ref P_2), some (.int (Int32.ofInt a_19)), some (.int (Int32.ofInt (i_18 : Int))), w20, w21, w22] [] (zN L X2 (zhi s8) R2 G2 (nc + 1) (ns + 2)) Q := by
          intro m
          induction m with
          | zero => intros; omega
          | succ m ih27 =>
            intro i_18 a_19 w20 w21 w22 c23 c24 c25 hm28
            have hz := @zcp_s s8 i_18
            refine zW.run 2 (pc' := 276) (ls' := [some (.ref 6), some (.int (Int32.ofInt n)), some (.int (Int32.ofInt w)), some (.ref P_2), some (.int (Int32.ofInt a_19)), some (.int (Int32.ofInt (i_18 : Int))), w20, w21, w22]) (st' := [.int (Int32.ofInt 8), .int (Int32.ofInt (i_18 : Int))]) (σ' := (zN L X2 (zhi s8) R2 G2 (nc + 1) (ns + 2))) (fun n => rfl) ?_
            refine zW.jcmp_ge rfl (by omega) (fun c29 => ?_) (fun c29 => ?_)
            · skip
              have e8 : i_18 = 8 := (by omega)
              have ea : a_19 = zcp s8 8 := by rw [← e8]; assumption
              refine zW.run 4 (pc' := 447) (ls' := [some (.ref 6), some (.int (Int32.ofInt n)), some (.int (Int32.ofInt w)), some (.ref P_2), some (.int (Int32.ofInt a_19)), some (.int (Int32.ofInt 0)), some (.int (Int32.ofInt 0)), w21, w22]) (st' := []) (σ' := (zN L X2 (zhi s8) R2 G2 (nc + 1) (ns + 2))) (fun n => rfl) ?_
              have J37 : ∀ m : Nat, ∀ (i_30 : Nat) (a_31 : Int) (w32 : Option Value) (w33 : Option Value), i_30 ≤ 6 → 0 ≤ a_31 ∧ a_31 ≤ i_30 → a_31 = zrp s8 i_30 → 7 - i_30 < m → zW zro 165 447 [some (.ref 6), some (.int (Int32.ofInt n)), some (.int (Int32.ofInt w)), some (.ref P_2), some (.int (Int32.ofInt a_19)), some (.int (Int32.ofInt a_31)), some (.int (Int32.ofInt (i_30 : Int))), w32, w33] [] (zN L X2 (zhi s8) R2 G2 (nc + 1) (ns + 2)) Q := by
                intro m
                induction m with
                | zero => intros; omega
                | succ m ih38 =>
                  intro i_30 a_31 w32 w33 c34 c35 c36 hm39
                  have hz := @zrp_s s8 i_30
                  refine zW.run 2 (pc' := 451) (ls' := [some (.ref 6), some (.int (Int32.ofInt n)), some (.int (Int32.ofInt w)), some (.ref P_2), some (.int (Int32.ofInt a_19)), some (.int (Int32.ofInt a_31)), some (.int (Int32.ofInt (i_30 : Int))), w32, w33]) (st' := [.int (Int32.ofInt 6), .int (Int32.ofInt (i_30 : Int))]) (σ' := (zN L X2 (zhi s8) R2 G2 (nc + 1) (ns + 2))) (fun n => rfl) ?_
                  refine zW.jcmp_ge rfl (by omega) (fun c40 => ?_) (fun c40 => ?_)
                  · skip
                    have e6 : i_30 = 6 := (by omega)
                    have ea2 : a_31 = zrp s8 6 := by rw [← e6]; assumption
                    refine zW.run 2 (pc' := 580) (ls' := [some (.ref 6), some (.int (Int32.ofInt n)), some (.int (Int32.ofInt w)), some (.ref P_2), some (.int (Int32.ofInt a_19)), some (.int (Int32.ofInt a_31)), some (.int (Int32.ofInt 0)), w32, w33]) (st' := []) (σ' := (zN L X2 (zhi s8) R2 G2 (nc + 1) (ns + 2))) (fun n => rfl) ?_
                    have J45 : ∀ m : Nat, ∀ (i_41 : Nat) (w42 : Option Value) (w43 : Option Value), i_41 ≤ 6 → 7 - i_41 < m → zW zro 165 580 [some (.ref 6), some (.int (Int32.ofInt n)), some (.int (Int32.ofInt w)), some (.ref P_2), some (.int (Int32.ofInt a_19)), some (.int (Int32.ofInt a_31)), some (.int (Int32.ofInt (i_41 : Int))), w42, w43] [] (zN L X2 (zhi s8) R2 G2 (nc + 1) (ns + 2)) Q := by
                      intro m
                      induction m with
                      | zero => intros; omega
                      | succ m ih46 =>
                        intro i_41 w42 w43 c44 hm47
                        refine zW.run 3 (pc' := 585) (ls' := [some (.ref 6), some (.int (Int32.ofInt n)), some (.int (Int32.ofInt w)), some (.ref P_2), some (.int (Int32.ofInt a_19)), some (.int (Int32.ofInt a_31)), some (.int (Int32.ofInt (i_41 : Int))), w42, w43]) (st' := [.int (Int32.ofInt 12), .ref 6, .int (Int32.ofInt (i_41 : Int))]) (σ' := (zN L X2 (zhi s8) R2 G2 (nc + 1) (ns + 2))) (fun n => rfl) ?_
                        refine zW.callV rfl (by decide) rfl rfl rfl rfl rfl (Nat.le_of_ble_eq_true rfl) ?_
                        refine t_S_ofSiege_12 S2 V9 ?_
                        show zW zro 165 588 [some (.ref 6), some (.int (Int32.ofInt n)), some (.int (Int32.ofInt w)), some (.ref P_2), some (.int (Int32.ofInt a_19)), some (.int (Int32.ofInt a_31)), some (.int (Int32.ofInt (i_41 : Int))), w42, w43] [.int (Int32.ofInt (s8 7 9)), .int (Int32.ofInt (i_41 : Int))] (zN L X2 (zhi s8) R2 G2 (nc + 1) (ns + 2)) Q
                        have f48 := zV_sie V9
                        refine zW.jcmp_ge rfl (by omega) (fun c49 => ?_) (fun c49 => ?_)
                        · skip
                          refine zW.run 8 (pc' := 684) (ls' := [some (.ref 6), some (.int (Int32.ofInt n)), some (.int (Int32.ofInt w)), some (.ref P_2), some (.int (Int32.ofInt a_19)), some (.int (Int32.ofInt a_31)), some (.int (Int32.ofInt 0)), w42, w43]) (st' := [.int (Int32.ofInt 5), .int (Int32.ofInt 0), .ref 6]) (σ' := (zN L X2 (zhi s8) R2 G2 (nc + 1) (ns + 2))) (fun n => rfl) ?_
                          refine zW.callV rfl (by decide) rfl rfl rfl rfl rfl (Nat.le_of_ble_eq_true rfl) ?_
                          refine t_S_ofSide_0_5 S2 V9 (fun v_50 f51 f52 => ?_)
                          show zW zro 165 687 [some (.ref 6), some (.int (Int32.ofInt n)), some (.int (Int32.ofInt w)), some (.ref P_2), some (.int (Int32.ofInt a_19)), some (.int (Int32.ofInt a_31)), some (.int (Int32.ofInt 0)), w42, w43] [.int (Int32.ofInt v_50)] (zN L X2 (zhi s8) R2 G2 (nc + 1) (ns + 2)) Q
                          refine zW.run 2 (pc' := 690) (ls' := [some (.ref 6), some (.int (Int32.ofInt n)), some (.int (Int32.ofInt w)), some (.ref P_2), some (.int (Int32.ofInt a_19)), some (.int (Int32.ofInt a_31)), some (.int (Int32.ofInt 0)), w42, w43]) (st' := [.int (Int32.ofInt 0), .ref P_2, .int (Int32.ofInt v_50)]) (σ' := (zN L X2 (zhi s8) R2 G2 (nc + 1) (ns + 2))) (fun n => rfl) ?_
                          refine zW.jald (n := 2) (v := (s8 P_2 0)) rfl hkP_2 (by decide) (by omega) rfl ?_
                          refine zW.jcmp_ne rfl (by omega) (fun c53 => ?_) (fun c53 => ?_)
                          · skip
                            refine zW.run 1 (pc' := 737) (ls' := [some (.ref 6), some (.int (Int32.ofInt n)), some (.int (Int32.ofInt w)), some (.ref P_2), some (.int (Int32.ofInt a_19)), some (.int (Int32.ofInt a_31)), some (.int (Int32.ofInt 0)), w42, w43]) (st' := [.int (Int32.ofInt 0)]) (σ' := (zN L X2 (zhi s8) R2 G2 (nc + 1) (ns + 2))) (fun n => rfl) ?_
                            exfalso
                            omega
                          · skip
                            refine zW.run 3 (pc' := 698) (ls' := [some (.ref 6), some (.int (Int32.ofInt n)), some (.int (Int32.ofInt w)), some (.ref P_2), some (.int (Int32.ofInt a_19)), some (.int (Int32.ofInt a_31)), some (.int (Int32.ofInt 0)), w42, w43]) (st' := [.int (Int32.ofInt 3), .int (Int32.ofInt 0), .ref 6]) (σ' := (zN L X2 (zhi s8) R2 G2 (nc + 1) (ns + 2))) (fun n => rfl) ?_
                            refine zW.callV rfl (by decide) rfl rfl rfl rfl rfl (Nat.le_of_ble_eq_true rfl) ?_
                            refine t_S_ofSide_0_3 S2 V9 ?_
                            show zW zro 165 701 [some (.ref 6), some (.int (Int32.ofInt n)), some (.int (Int32.ofInt w)), some (.ref P_2), some (.int (Int32.ofInt a_19)), some (.int (Int32.ofInt a_31)), some (.int (Int32.ofInt 0)), w42, w43] [.int (Int32.ofInt (s8 21 3))] (zN L X2 (zhi s8) R2 G2 (nc + 1) (ns + 2)) Q
                            have f54 := zV_sid V9 (o := 21) (by omega)
                            refine zW.jif_lt rfl (by omega) (fun c55 => ?_) (fun c55 => ?_)
                            · skip
                              refine zW.run 1 (pc' := 737) (ls' := [some (.ref 6), some (.int (Int32.ofInt n)), some (.int (Int32.ofInt w)), some (.ref P_2), some (.int (Int32.ofInt a_19)), some (.int (Int32.ofInt a_31)), some (.int (Int32.ofInt 0)), w42, w43]) (st' := [.int (Int32.ofInt 0)]) (σ' := (zN L X2 (zhi s8) R2 G2 (nc + 1) (ns + 2))) (fun n => rfl) ?_
                              exfalso
                              omega
                            · skip
                              refine zW.run 3 (pc' := 708) (ls' := [some (.ref 6), some (.int (Int32.ofInt n)), some (.int (Int32.ofInt w)), some (.ref P_2), some (.int (Int32.ofInt a_19)), some (.int (Int32.ofInt a_31)), some (.int (Int32.ofInt 0)), w42, w43]) (st' := [.int (Int32.ofInt 3), .int (Int32.ofInt 0), .ref 6]) (σ' := (zN L X2 (zhi s8) R2 G2 (nc + 1) (ns + 2))) (fun n => rfl) ?_
                              refine zW.callV rfl (by decide) rfl rfl rfl rfl rfl (Nat.le_of_ble_eq_true rfl) ?_
                              refine t_S_ofSide_0_3 S2 V9 ?_
                              show zW zro 165 711 [some (.ref 6), some (.int (Int32.ofInt n)), some (.int (Int32.ofInt w)), some (.ref P_2), some (.int (Int32.ofInt a_19)), some (.int (Int32.ofInt a_31)), some (.int (Int32.ofInt 0)), w42, w43] [.int (Int32.ofInt (s8 21 3))] (zN L X2 (zhi s8) R2 G2 (nc + 1) (ns + 2)) Q
                              refine zW.run 1 (pc' := 713) (ls' := [some (.ref 6), some (.int (Int32.ofInt n)), some (.int (Int32.ofInt w)), some (.ref P_2), some (.int (Int32.ofInt a_19)), some (.int (Int32.ofInt a_31)), some (.int (Int32.ofInt 0)), w42, w43]) (st' := [.int (Int32.ofInt 100), .int (Int32.ofInt (s8 21 3))]) (σ' := (zN L X2 (zhi s8) R2 G2 (nc + 1) (ns + 2))) (fun n => rfl) ?_
                              refine zW.jcmp_gt rfl (by omega) (fun c56 => ?_) (fun c56 => ?_)
                              · skip
                                refine zW.run 1 (pc' := 737) (ls' := [some (.ref 6), some (.int (Int32.ofInt n)), some (.int (Int32.ofInt w)), some (.ref P_2), some (.int (Int32.ofInt a_19)), some (.int (Int32.ofInt a_31)), some (.int (Int32.ofInt 0)), w42, w43]) (st' := [.int (Int32.ofInt 0)]) (σ' := (zN L X2 (zhi s8) R2 G2 (nc + 1) (ns + 2))) (fun n => rfl) ?_
                                exfalso
                                omega
                              · skip
                                refine zW.run 3 (pc' := 720) (ls' := [some (.ref 6), some (.int (Int32.ofInt n)), some (.int (Int32.ofInt w)), some (.ref P_2), some (.int (Int32.ofInt a_19)), some (.int (Int32.ofInt a_31)), some (.int (Int32.ofInt 0)), w42, w43]) (st' := [.int (Int32.ofInt 1), .int (Int32.ofInt 0), .ref 6]) (σ' := (zN L X2 (zhi s8) R2 G2 (nc + 1) (ns + 2))) (fun n => rfl) ?_
                                refine zW.callV rfl (by decide) rfl rfl rfl rfl rfl (Nat.le_of_ble_eq_true rfl) ?_
                                refine t_S_ofSide_0_1 S2 V9 ?_
                                show zW zro 165 723 [some (.ref 6), some (.int (Int32.ofInt n)), some (.int (Int32.ofInt w)), some (.ref P_2), some (.int (Int32.ofInt a_19)), some (.int (Int32.ofInt a_31)), some (.int (Int32.ofInt 0)), w42, w43] [.int (Int32.ofInt (s8 21 1))] (zN L X2 (zhi s8) R2 G2 (nc + 1) (ns + 2)) Q
                                refine zW.jif_lt rfl (by omega) (fun c57 => ?_) (fun c57 => ?_)
                                · skip
                                  refine zW.run 1 (pc' := 737) (ls' := [some (.ref 6), some (.int (Int32.ofInt n)), some (.int (Int32.ofInt w)), some (.ref P_2), some (.int (Int32.ofInt a_19)), some (.int (Int32.ofInt a_31)), some (.int (Int32.ofInt 0)), w42, w43]) (st' := [.int (Int32.ofInt 0)]) (σ' := (zN L X2 (zhi s8) R2 G2 (nc + 1) (ns + 2))) (fun n => rfl) ?_
                                  exfalso
                                  omega
                                · skip
                                  refine zW.run 3 (pc' := 730) (ls' := [some (.ref 6), some (.int (Int32.ofInt n)), some (.int (Int32.ofInt w)), some (.ref P_2), some (.int (Int32.ofInt a_19)), some (.int (Int32.ofInt a_31)), some (.int (Int32.ofInt 0)), w42, w43]) (st' := [.int (Int32.ofInt 2), .int (Int32.ofInt 0), .ref 6]) (σ' := (zN L X2 (zhi s8) R2 G2 (nc + 1) (ns + 2))) (fun n => rfl) ?_
                                  refine zW.callV rfl (by decide) rfl rfl rfl rfl rfl (Nat.le_of_ble_eq_true rfl) ?_
                                  refine t_S_ofSide_0_2 S2 V9 ?_
                                  show zW zro 165 733 [some (.ref 6), some (.int (Int32.ofInt n)), some (.int (Int32.ofInt w)), some (.ref P_2), some (.int (Int32.ofInt a_19)), some (.int (Int32.ofInt a_31)), some (.int (Int32.ofInt 0)), w42, w43] [.int (Int32.ofInt (s8 21 2))] (zN L X2 (zhi s8) R2 G2 (nc + 1) (ns + 2)) Q
                                  refine zW.jif_ge rfl (by omega) (fun c58 => ?_) (fun c58 => ?_)
                                  · skip
                                    refine zW.jinc (ls' := [some (.ref 6), some (.int (Int32.ofInt n)), some (.int (Int32.ofInt w)), some (.ref P_2), some (.int (Int32.ofInt a_19)), some (.int (Int32.ofInt a_31)), some (.int (Int32.ofInt 1)), w42, w43]) rfl (Nat.le_of_ble_eq_true rfl) rfl rfl ?_
                                    refine zW.run 7 (pc' := 684) (ls' := [some (.ref 6), some (.int (Int32.ofInt n)), some (.int (Int32.ofInt w)), some (.ref P_2), some (.int (Int32.ofInt a_19)), some (.int (Int32.ofInt a_31)), some (.int (Int32.ofInt 1)), w42, w43]) (st' := [.int (Int32.ofInt 5), .int (Int32.ofInt 1), .ref 6]) (σ' := (zN L X2 (zhi s8) R2 G2 (nc + 1) (ns + 2))) (fun n => rfl) ?_
                                    refine zW.callV rfl (by decide) rfl rfl rfl rfl rfl (Nat.le_of_ble_eq_true rfl) ?_
                                    refine t_S_ofSide_1_5 S2 V9 (fun v_59 f60 f61 => ?_)
                                    show zW zro 165 687 [some (.ref 6), some (.int (Int32.ofInt n)), some (.int (Int32.ofInt w)), some (.ref P_2), some (.int (Int32.ofInt a_19)), some (.int (Int32.ofInt a_31)), some (.int (Int32.ofInt 1)), w42, w43] [.int (Int32.ofInt v_59)] (zN L X2 (zhi s8) R2 G2 (nc + 1) (ns + 2)) Q
                                    refine zW.run 2 (pc' := 690) (ls' := [some (.ref 6), some (.int (Int32.ofInt n)), some (.int (Int32.ofInt w)), some (.ref P_2), some (.int (Int32.ofInt a_19)), some (.int (Int32.ofInt a_31)), some (.int (Int32.ofInt 1)), w42, w43]) (st' := [.int (Int32.ofInt 1), .ref P_2, .int (Int32.ofInt v_59)]) (σ' := (zN L X2 (zhi s8) R2 G2 (nc + 1) (ns + 2))) (fun n => rfl) ?_
                                    refine zW.jald (n := 2) (v := (s8 P_2 1)) rfl hkP_2 (by decide) (by omega) rfl ?_
                                    refine zW.jcmp_ne rfl (by omega) (fun c62 => ?_) (fun c62 => ?_)
                                    · skip
                                      refine zW.run 1 (pc' := 737) (ls' := [some (.ref 6), some (.int (Int32.ofInt n)), some (.int (Int32.ofInt w)), some (.ref P_2), some (.int (Int32.ofInt a_19)), some (.int (Int32.ofInt a_31)), some (.int (Int32.ofInt 1)), w42, w43]) (st' := [.int (Int32.ofInt 0)]) (σ' := (zN L X2 (zhi s8) R2 G2 (nc + 1) (ns + 2))) (fun n => rfl) ?_
                                      exfalso
                                      omega
                                    · skip
                                      refine zW.run 3 (pc' := 698) (ls' := [some (.ref 6), some (.int (Int32.ofInt n)), some (.int (Int32.ofInt w)), some (.ref P_2), some (.int (Int32.ofInt a_19)), some (.int (Int32.ofInt a_31)), some (.int (Int32.ofInt 1)), w42, w43]) (st' := [.int (Int32.ofInt 3), .int (Int32.ofInt 1), .ref 6]) (σ' := (zN L X2 (zhi s8) R2 G2 (nc + 1) (ns + 2))) (fun n => rfl) ?_
                                      refine zW.callV rfl (by decide) rfl rfl rfl rfl rfl (Nat.le_of_ble_eq_true rfl) ?_
                                      refine t_S_ofSide_1_3 S2 V9 ?_
                                      show zW zro 165 701 [some (.ref 6), some (.int (Int32.ofInt n)), some (.int (Int32.ofInt w)), some (.ref P_2), some (.int (Int32.ofInt a_19)), some (.int (Int32.ofInt a_31)), some (.int (Int32.ofInt 1)), w42, w43] [.int (Int32.ofInt (s8 22 3))] (zN L X2 (zhi s8) R2 G2 (nc + 1) (ns + 2)) Q
                                      have f63 := zV_sid V9 (o := 22) (by omega)
                                      refine zW.jif_lt rfl (by omega) (fun c64 => ?_) (fun c64 => ?_)
                                      · skip
                                        refine zW.run 1 (pc' := 737) (ls' := [some (.ref 6), some (.int (Int32.ofInt n)), some (.int (Int32.ofInt w)), some (.ref P_2), some (.int (Int32.ofInt a_19)), some (.int (Int32.ofInt a_31)), some (.int (Int32.ofInt 1)), w42, w43]) (st' := [.int (Int32.ofInt 0)]) (σ' := (zN L X2 (zhi s8) R2 G2 (nc + 1) (ns + 2))) (fun n => rfl) ?_
                                        exfalso
                                        omega
                                      · skip
                                        refine zW.run 3 (pc' := 708) (ls' := [some (.ref 6), some (.int (Int32.ofInt n)), some (.int (Int32.ofInt w)), some (.ref P_2), some (.int (Int32.ofInt a_19)), some (.int (Int32.ofInt a_31)), some (.int (Int32.ofInt 1)), w42, w43]) (st' := [.int (Int32.ofInt 3), .int (Int32.ofInt 1), .ref 6]) (σ' := (zN L X2 (zhi s8) R2 G2 (nc + 1) (ns + 2))) (fun n => rfl) ?_
                                        refine zW.callV rfl (by decide) rfl rfl rfl rfl rfl (Nat.le_of_ble_eq_true rfl) ?_
                                        refine t_S_ofSide_1_3 S2 V9 ?_
                                        show zW zro 165 711 [some (.ref 6), some (.int (Int32.ofInt n)), some (.int (Int32.ofInt w)), some (.ref P_2), some (.int (Int32.ofInt a_19)), some (.int (Int32.ofInt a_31)), some (.int (Int32.ofInt 1)), w42, w43] [.int (Int32.ofInt (s8 22 3))] (zN L X2 (zhi s8) R2 G2 (nc + 1) (ns + 2)) Q
                                        refine zW.run 1 (pc' := 713) (ls' := [some (.ref 6), some (.int (Int32.ofInt n)), some (.int (Int32.ofInt w)), some (.ref P_2), some (.int (Int32.ofInt a_19)), some (.int (Int32.ofInt a_31)), some (.int (Int32.ofInt 1)), w42, w43]) (st' := [.int (Int32.ofInt 100), .int (Int32.ofInt (s8 22 3))]) (σ' := (zN L X2 (zhi s8) R2 G2 (nc + 1) (ns + 2))) (fun n => rfl) ?_
                                        refine zW.jcmp_gt rfl (by omega) (fun c65 => ?_) (fun c65 => ?_)
                                        · skip
                                          refine zW.run 1 (pc' := 737) (ls' := [some (.ref 6), some (.int (Int32.ofInt n)), some (.int (Int32.ofInt w)), some (.ref P_2), some (.int (Int32.ofInt a_19)), some (.int (Int32.ofInt a_31)), some (.int (Int32.ofInt 1)), w42, w43]) (st' := [.int (Int32.ofInt 0)]) (σ' := (zN L X2 (zhi s8) R2 G2 (nc + 1) (ns + 2))) (fun n => rfl) ?_
                                          exfalso
                                          omega
                                        · skip
                                          refine zW.run 3 (pc' := 720) (ls' := [some (.ref 6), some (.int (Int32.ofInt n)), some (.int (Int32.ofInt w)), some (.ref P_2), some (.int (Int32.ofInt a_19)), some (.int (Int32.ofInt a_31)), some (.int (Int32.ofInt 1)), w42, w43]) (st' := [.int (Int32.ofInt 1), .int (Int32.ofInt 1), .ref 6]) (σ' := (zN L X2 (zhi s8) R2 G2 (nc + 1) (ns + 2))) (fun n => rfl) ?_
                                          refine zW.callV rfl (by decide) rfl rfl rfl rfl rfl (Nat.le_of_ble_eq_true rfl) ?_
                                          refine t_S_ofSide_1_1 S2 V9 ?_
                                          show zW zro 165 723 [some (.ref 6), some (.int (Int32.ofInt n)), some (.int (Int32.ofInt w)), some (.ref P_2), some (.int (Int32.ofInt a_19)), some (.int (Int32.ofInt a_31)), some (.int (Int32.ofInt 1)), w42, w43] [.int (Int32.ofInt (s8 22 1))] (zN L X2 (zhi s8) R2 G2 (nc + 1) (ns + 2)) Q
                                          refine zW.jif_lt rfl (by omega) (fun c66 => ?_) (fun c66 => ?_)
                                          · skip
                                            refine zW.run 1 (pc' := 737) (ls' := [some (.ref 6), some (.int (Int32.ofInt n)), some (.int (Int32.ofInt w)), some (.ref P_2), some (.int (Int32.ofInt a_19)), some (.int (Int32.ofInt a_31)), some (.int (Int32.ofInt 1)), w42, w43]) (st' := [.int (Int32.ofInt 0)]) (σ' := (zN L X2 (zhi s8) R2 G2 (nc + 1) (ns + 2))) (fun n => rfl) ?_
                                            exfalso
                                            omega
                                          · skip
                                            refine zW.run 3 (pc' := 730) (ls' := [some (.ref 6), some (.int (Int32.ofInt n)), some (.int (Int32.ofInt w)), some (.ref P_2), some (.int (Int32.ofInt a_19)), some (.int (Int32.ofInt a_31)), some (.int (Int32.ofInt 1)), w42, w43]) (st' := [.int (Int32.ofInt 2), .int (Int32.ofInt 1), .ref 6]) (σ' := (zN L X2 (zhi s8) R2 G2 (nc + 1) (ns + 2))) (fun n => rfl) ?_
                                            refine zW.callV rfl (by decide) rfl rfl rfl rfl rfl (Nat.le_of_ble_eq_true rfl) ?_
                                            refine t_S_ofSide_1_2 S2 V9 ?_
                                            show zW zro 165 733 [some (.ref 6), some (.int (Int32.ofInt n)), some (.int (Int32.ofInt w)), some (.ref P_2), some (.int (Int32.ofInt a_19)), some (.int (Int32.ofInt a_31)), some (.int (Int32.ofInt 1)), w42, w43] [.int (Int32.ofInt (s8 22 2))] (zN L X2 (zhi s8) R2 G2 (nc + 1) (ns + 2)) Q
                                            refine zW.jif_ge rfl (by omega) (fun c67 => ?_) (fun c67 => ?_)
                                            · skip
                                              refine zW.jinc (ls' := [some (.ref 6), some (.int (Int32.ofInt n)), some (.int (Int32.ofInt w)), some (.ref P_2), some (.int (Int32.ofInt a_19)), some (.int (Int32.ofInt a_31)), some (.int (Int32.ofInt 2)), w42, w43]) rfl (Nat.le_of_ble_eq_true rfl) rfl rfl ?_
                                              refine zW.run 4 (pc' := 744) (ls' := [some (.ref 6), some (.int (Int32.ofInt n)), some (.int (Int32.ofInt w)), some (.ref P_2), some (.int (Int32.ofInt a_19)), some (.int (Int32.ofInt a_31)), some (.int (Int32.ofInt 2)), w42, w43]) (st' := []) (σ' := (zN L X2 (zhi s8) R2 G2 (nc + 1) (ns + 2))) (fun n => rfl) ?_
                                              have J74 : ∀ (w68 : Option Value) (w69 : Option Value) (w70 : Option Value) (w71 : Option Value) (w72 : Option Value) (w73 : Option Value), zW zro 165 867 [some (.ref 6), some (.int (Int32.ofInt n)), some (.int (Int32.ofInt w)), w68, w69, w70, w71, w72, w73] [] (zN L X2 (zhi s8) R2 G2 (nc + 1) (ns + 2)) Q := by
                                                intro w68 w69 w70 w71 w72 w73
                                                have hL9 := zV_zL1 V9
                                                unfold zL1 at hL9
                                                have hz9 := (zV_zZ1 V9).2
                                                refine zW.run 3 (pc' := 870) (ls' := [some (.ref 6), some (.int (Int32.ofInt n)), some (.int (Int32.ofInt w)), w68, w69, w70, w71, w72, w73]) (st' := [.int (Int32.ofInt 1), .int (Int32.ofInt n), .ref 6]) (σ' := (zN L X2 (zhi s8) R2 G2 (nc + 1) (ns + 2))) (fun n => rfl) ?_
                                                refine zW.callS rfl rfl rfl rfl rfl (Nat.le_of_ble_eq_true rfl) ?_
                                                refine t_L_count S2 V9 (n := n) (x := 1) (by omega) (by omega) (fun v_75 f76 f77 => ?_)
                                                show zW zro 165 873 [some (.ref 6), some (.int (Int32.ofInt n)), some (.int (Int32.ofInt w)), w68, w69, w70, w71, w72, w73] [.int (Int32.ofInt v_75)] (zN L X2 (zhi s8) R2 G2 (nc + 1) (ns + 2)) Q
                                                refine zW.run 2 (pc' := 875) (ls' := [some (.ref 6), some (.int (Int32.ofInt n)), some (.int (Int32.ofInt w)), w68, w69, w70, w71, w72, w73]) (st' := [.int (Int32.ofInt 4), .ref 6, .int (Int32.ofInt v_75)]) (σ' := (zN L X2 (zhi s8) R2 G2 (nc + 1) (ns + 2))) (fun n => rfl) ?_
                                                refine zW.callV rfl (by decide) rfl rfl rfl rfl rfl (Nat.le_of_ble_eq_true rfl) ?_
                                                refine t_S_ofSiege_4 S2 V9 ?_
                                                show zW zro 165 878 [some (.ref 6), some (.int (Int32.ofInt n)), some (.int (Int32.ofInt w)), w68, w69, w70, w71, w72, w73] [.int (Int32.ofInt (s8 7 13)), .int (Int32.ofInt v_75)] (zN L X2 (zhi s8) R2 G2 (nc + 1) (ns + 2)) Q
                                                refine zW.jadd rfl ?_
                                                refine zW.run 1 (pc' := 880) (ls' := [some (.ref 6), some (.int (Int32.ofInt n)), some (.int (Int32.ofInt w)), w68, w69, w70, w71, w72, w73]) (st' := [.int (Int32.ofInt w), .int (Int32.ofInt (v_75 + (s8 7 13)))]) (σ' := (zN L X2 (zhi s8) R2 G2 (nc + 1) (ns + 2))) (fun n => rfl) ?_
                                                refine zW.jsub rfl ?_
                                                refine zW.run 2 (pc' := 885) (ls' := [some (.ref 6), some (.int (Int32.ofInt n)), some (.int (Int32.ofInt w)), w68, w69, w70, w71, w72, some (.int (Int32.ofInt ((v_75 + (s8 7 13)) - w)))]) (st' := [.int (Int32.ofInt ((v_75 + (s8 7 13)) - w))]) (σ' := (zN L X2 (zhi s8) R2 G2 (nc + 1) (ns + 2))) (fun n => rfl) ?_
                                                refine zW.jif_lt rfl (by omega) (fun c78 => ?_) (fun c78 => ?_)
                                                · skip
                                                  refine zW.run 1 (pc' := 928) (ls' := [some (.ref 6), some (.int (Int32.ofInt n)), some (.int (Int32.ofInt w)), w68, w69, w70, w71, w72, some (.int (Int32.ofInt ((v_75 + (s8 7 13)) - w)))]) (st' := [.int (Int32.ofInt 0)]) (σ' := (zN L X2 (zhi s8) R2 G2 (nc + 1) (ns + 2))) (fun n => rfl) ?_
                                                  exfalso
                                                  omega
                                                · skip
                                                  refine zW.run 3 (pc' := 892) (ls' := [some (.ref 6), some (.int (Int32.ofInt n)), some (.int (Int32.ofInt w)), w68, w69, w70, w71, w72, some (.int (Int32.ofInt ((v_75 + (s8 7 13)) - w)))]) (st' := [.int (Int32.ofInt 4), .ref 6, .int (Int32.ofInt ((v_75 + (s8 7 13)) - w))]) (σ' := (zN L X2 (zhi s8) R2 G2 (nc + 1) (ns + 2))) (fun n => rfl) ?_
                                                  refine zW.callV rfl (by decide) rfl rfl rfl rfl rfl (Nat.le_of_ble_eq_true rfl) ?_
                                                  refine t_S_ofSiege_4 S2 V9 ?_
                                                  show zW zro 165 895 [some (.ref 6), some (.int (Int32.ofInt n)), some (.int (Int32.ofInt w)), w68, w69, w70, w71, w72, some (.int (Int32.ofInt ((v_75 + (s8 7 13)) - w)))] [.int (Int32.ofInt (s8 7 13)), .int (Int32.ofInt ((v_75 + (s8 7 13)) - w))] (zN L X2 (zhi s8) R2 G2 (nc + 1) (ns + 2)) Q
                                                  refine zW.jcmp_gt rfl (by omega) (fun c79 => ?_) (fun c79 => ?_)
                                                  · skip
                                                    refine zW.run 1 (pc' := 928) (ls' := [some (.ref 6), some (.int (Int32.ofInt n)), some (.int (Int32.ofInt w)), w68, w69, w70, w71, w72, some (.int (Int32.ofInt ((v_75 + (s8 7 13)) - w)))]) (st' := [.int (Int32.ofInt 0)]) (σ' := (zN L X2 (zhi s8) R2 G2 (nc + 1) (ns + 2))) (fun n => rfl) ?_
                                                    exfalso
                                                    omega
                                                  · skip
                                                    refine zW.run 2 (pc' := 900) (ls' := [some (.ref 6), some (.int (Int32.ofInt n)), some (.int (Int32.ofInt w)), w68, w69, w70, w71, w72, some (.int (Int32.ofInt ((v_75 + (s8 7 13)) - w)))]) (st' := [.int (Int32.ofInt 1), .ref 6]) (σ' := (zN L X2 (zhi s8) R2 G2 (nc + 1) (ns + 2))) (fun n => rfl) ?_
                                                    refine zW.callV rfl (by decide) rfl rfl rfl rfl rfl (Nat.le_of_ble_eq_true rfl) ?_
                                                    refine t_S_ofSiege_1 S2 V9 ?_
                                                    show zW zro 165 903 [some (.ref 6), some (.int (Int32.ofInt n)), some (.int (Int32.ofInt w)), w68, w69, w70, w71, w72, some (.int (Int32.ofInt ((v_75 + (s8 7 13)) - w)))] [.int (Int32.ofInt (s8 7 11))] (zN L X2 (zhi s8) R2 G2 (nc + 1) (ns + 2)) Q
                                                    refine zW.run 1 (pc' := 904) (ls' := [some (.ref 6), some (.int (Int32.ofInt n)), some (.int (Int32.ofInt w)), w68, w69, w70, w71, w72, some (.int (Int32.ofInt ((v_75 + (s8 7 13)) - w)))]) (st' := [.int (Int32.ofInt 2), .int (Int32.ofInt (s8 7 11))]) (σ' := (zN L X2 (zhi s8) R2 G2 (nc + 1) (ns + 2))) (fun n => rfl) ?_
                                                    refine zW.jcmp_eq rfl (by omega) (fun c80 => ?_) (fun c80 => ?_)
                                                    · skip
                                                      refine zW.run 1 (pc' := 917) (ls' := [some (.ref 6), some (.int (Int32.ofInt n)), some (.int (Int32.ofInt w)), w68, w69, w70, w71, w72, some (.int (Int32.ofInt ((v_75 + (s8 7 13)) - w)))]) (st' := [.ref 6]) (σ' := (zN L X2 (zhi s8) R2 G2 (nc + 1) (ns + 2))) (fun n => rfl) ?_
                                                      refine zW.callV rfl (by decide) rfl rfl rfl rfl rfl (Nat.le_of_ble_eq_true rfl) ?_
                                                      refine t_S_isSound S2 V9 ?_
                                                      show zW zro 165 920 [some (.ref 6), some (.int (Int32.ofInt n)), some (.int (Int32.ofInt w)), w68, w69, w70, w71, w72, some (.int (Int32.ofInt ((v_75 + (s8 7 13)) - w)))] [.int (Int32.ofInt 1)] (zN L X2 (zhi s8) R2 G2 (nc + 1) (ns + 2)) Q
                                                      refine zW.run 3 (pc' := 928) (ls' := [some (.ref 6), some (.int (Int32.ofInt n)), some (.int (Int32.ofInt w)), w68, w69, w70, w71, w72, some (.int (Int32.ofInt ((v_75 + (s8 7 13)) - w)))]) (st' := [.int (Int32.ofInt 1)]) (σ' := (zN L X2 (zhi s8) R2 G2 (nc + 1) (ns + 2))) (fun n => rfl) ?_
                                                      exact zW.jretb rfl rfl (by decide) (hQ0 X2 R2 G2 s8 (nc + 1) (ns + 2) V9 S2 (cq1) (fun p h9 => hr2 p (by omega)) (fun p h9 => hg2 p (by omega)) (by omega) (by omega) (by omega))
                                                    · skip
                                                      refine zW.run 2 (pc' := 909) (ls' := [some (.ref 6), some (.int (Int32.ofInt n)), some (.int (Int32.ofInt w)), w68, w69, w70, w71, w72, some (.int (Int32.ofInt ((v_75 + (s8 7 13)) - w)))]) (st' := [.int (Int32.ofInt 2), .ref 6]) (σ' := (zN L X2 (zhi s8) R2 G2 (nc + 1) (ns + 2))) (fun n => rfl) ?_
                                                      refine zW.callV rfl (by decide) rfl rfl rfl rfl rfl (Nat.le_of_ble_eq_true rfl) ?_
                                                      refine t_S_ofSiege_2 S2 V9 ?_
                                                      show zW zro 165 912 [some (.ref 6), some (.int (Int32.ofInt n)), some (.int (Int32.ofInt w)), w68, w69, w70, w71, w72, some (.int (Int32.ofInt ((v_75 + (s8 7 13)) - w)))] [.int (Int32.ofInt (s8 7 12))] (zN L X2 (zhi s8) R2 G2 (nc + 1) (ns + 2)) Q
                                                      refine zW.run 1 (pc' := 913) (ls' := [some (.ref 6), some (.int (Int32.ofInt n)), some (.int (Int32.ofInt w)), w68, w69, w70, w71, w72, some (.int (Int32.ofInt ((v_75 + (s8 7 13)) - w)))]) (st' := [.int (Int32.ofInt (-1)), .int (Int32.ofInt (s8 7 12))]) (σ' := (zN L X2 (zhi s8) R2 G2 (nc + 1) (ns + 2))) (fun n => rfl) ?_
                                                      refine zW.jcmp_ne rfl (by omega) (fun c81 => ?_) (fun c81 => ?_)
                                                      · skip
                                                        refine zW.run 1 (pc' := 928) (ls' := [some (.ref 6), some (.int (Int32.ofInt n)), some (.int (Int32.ofInt w)), w68, w69, w70, w71, w72, some (.int (Int32.ofInt ((v_75 + (s8 7 13)) - w)))]) (st' := [.int (Int32.ofInt 0)]) (σ' := (zN L X2 (zhi s8) R2 G2 (nc + 1) (ns + 2))) (fun n => rfl) ?_
                                                        exfalso
                                                        omega
                                                      · skip
                                                        refine zW.run 1 (pc' := 917) (ls' := [some (.ref 6), some (.int (Int32.ofInt n)), some (.int (Int32.ofInt w)), w68, w69, w70, w71, w72, some (.int (Int32.ofInt ((v_75 + (s8 7 13)) - w)))]) (st' := [.ref 6]) (σ' := (zN L X2 (zhi s8) R2 G2 (nc + 1) (ns + 2))) (fun n => rfl) ?_
                                                        refine zW.callV rfl (by decide) rfl rfl rfl rfl rfl (Nat.le_of_ble_eq_true rfl) ?_
                                                        refine t_S_isSound S2 V9 ?_
                                                        show zW zro 165 920 [some (.ref 6), some (.int (Int32.ofInt n)), some (.int (Int32.ofInt w)), w68, w69, w70, w71, w72, some (.int (Int32.ofInt ((v_75 + (s8 7 13)) - w)))] [.int (Int32.ofInt 1)] (zN L X2 (zhi s8) R2 G2 (nc + 1) (ns + 2)) Q
                                                        refine zW.run 3 (pc' := 928) (ls' := [some (.ref 6), some (.int (Int32.ofInt n)), some (.int (Int32.ofInt w)), w68, w69, w70, w71, w72, some (.int (Int32.ofInt ((v_75 + (s8 7 13)) - w)))]) (st' := [.int (Int32.ofInt 1)]) (σ' := (zN L X2 (zhi s8) R2 G2 (nc + 1) (ns + 2))) (fun n => rfl) ?_
                                                        exact zW.jretb rfl rfl (by decide) (hQ0 X2 R2 G2 s8 (nc + 1) (ns + 2) V9 S2 (cq1) (fun p h9 => hr2 p (by omega)) (fun p h9 => hg2 p (by omega)) (by omega) (by omega) (by omega))
                                              have hL := zV_zL1 V9
                                              unfold zL1 at hL
                                              have hcc := zcp_c V9
                                              have hrr := zrp_c V9
                                              have hz1 := (zV_zZ1 V9).2
                                              refine zW.run 2 (pc' := 746) (ls' := [some (.ref 6), some (.int (Int32.ofInt n)), some (.int (Int32.ofInt w)), some (.ref P_2), some (.int (Int32.ofInt a_19)), some (.int (Int32.ofInt a_31)), some (.int (Int32.ofInt 2)), w42, w43]) (st' := [.int (Int32.ofInt 3), .ref 6]) (σ' := (zN L X2 (zhi s8) R2 G2 (nc + 1) (ns + 2))) (fun n => rfl) ?_
                                              refine zW.callV rfl (by decide) rfl rfl rfl rfl rfl (Nat.le_of_ble_eq_true rfl) ?_
                                              refine t_S_ofSiege_3 S2 V9 (fun v_82 f83 f84 f85 => ?_)
                                              show zW zro 165 749 [some (.ref 6), some (.int (Int32.ofInt n)), some (.int (Int32.ofInt w)), some (.ref P_2), some (.int (Int32.ofInt a_19)), some (.int (Int32.ofInt a_31)), some (.int (Int32.ofInt 2)), w42, w43] [.int (Int32.ofInt v_82)] (zN L X2 (zhi s8) R2 G2 (nc + 1) (ns + 2)) Q
                                              refine zW.run 4 (pc' := 755) (ls' := [some (.ref 6), some (.int (Int32.ofInt n)), some (.int (Int32.ofInt w)), some (.ref P_2), some (.int (Int32.ofInt a_19)), some (.int (Int32.ofInt a_31)), some (.int (Int32.ofInt v_82)), w42, w43]) (st' := [.int (Int32.ofInt 6), .int (Int32.ofInt n), .ref 6]) (σ' := (zN L X2 (zhi s8) R2 G2 (nc + 1) (ns + 2))) (fun n => rfl) ?_
                                              refine zW.callS rfl rfl rfl rfl rfl (Nat.le_of_ble_eq_true rfl) ?_
                                              refine t_L_count S2 V9 (n := n) (x := 6) (by omega) (by omega) (fun v_86 f87 f88 => ?_)
                                              show zW zro 165 758 [some (.ref 6), some (.int (Int32.ofInt n)), some (.int (Int32.ofInt w)), some (.ref P_2), some (.int (Int32.ofInt a_19)), some (.int (Int32.ofInt a_31)), some (.int (Int32.ofInt v_82)), w42, w43] [.int (Int32.ofInt v_86)] (zN L X2 (zhi s8) R2 G2 (nc + 1) (ns + 2)) Q
                                              refine zW.run 4 (pc' := 764) (ls' := [some (.ref 6), some (.int (Int32.ofInt n)), some (.int (Int32.ofInt w)), some (.ref P_2), some (.int (Int32.ofInt a_19)), some (.int (Int32.ofInt a_31)), some (.int (Int32.ofInt v_82)), some (.int (Int32.ofInt v_86)), w43]) (st' := [.int (Int32.ofInt 6), .int (Int32.ofInt 0), .ref 6]) (σ' := (zN L X2 (zhi s8) R2 G2 (nc + 1) (ns + 2))) (fun n => rfl) ?_
                                              refine zW.callV rfl (by decide) rfl rfl rfl rfl rfl (Nat.le_of_ble_eq_true rfl) ?_
                                              refine t_S_ofSide_0_6 S2 V9 (fun v_89 f90 f91 => ?_)
                                              show zW zro 165 767 [some (.ref 6), some (.int (Int32.ofInt n)), some (.int (Int32.ofInt w)), some (.ref P_2), some (.int (Int32.ofInt a_19)), some (.int (Int32.ofInt a_31)), some (.int (Int32.ofInt v_82)), some (.int (Int32.ofInt v_86)), w43] [.int (Int32.ofInt v_89)] (zN L X2 (zhi s8) R2 G2 (nc + 1) (ns + 2)) Q
                                              refine zW.run 3 (pc' := 771) (ls' := [some (.ref 6), some (.int (Int32.ofInt n)), some (.int (Int32.ofInt w)), some (.ref P_2), some (.int (Int32.ofInt a_19)), some (.int (Int32.ofInt a_31)), some (.int (Int32.ofInt v_82)), some (.int (Int32.ofInt v_86)), w43]) (st' := [.int (Int32.ofInt 6), .int (Int32.ofInt 1), .ref 6, .int (Int32.ofInt v_89)]) (σ' := (zN L X2 (zhi s8) R2 G2 (nc + 1) (ns + 2))) (fun n => rfl) ?_
                                              refine zW.callV rfl (by decide) rfl rfl rfl rfl rfl (Nat.le_of_ble_eq_true rfl) ?_
                                              refine t_S_ofSide_1_6 S2 V9 (fun v_92 f93 f94 => ?_)
                                              show zW zro 165 774 [some (.ref 6), some (.int (Int32.ofInt n)), some (.int (Int32.ofInt w)), some (.ref P_2), some (.int (Int32.ofInt a_19)), some (.int (Int32.ofInt a_31)), some (.int (Int32.ofInt v_82)), some (.int (Int32.ofInt v_86)), w43] [.int (Int32.ofInt v_92), .int (Int32.ofInt v_89)] (zN L X2 (zhi s8) R2 G2 (nc + 1) (ns + 2)) Q
                                              refine zW.jadd rfl ?_
                                              refine zW.run 1 (pc' := 777) (ls' := [some (.ref 6), some (.int (Int32.ofInt n)), some (.int (Int32.ofInt w)), some (.ref P_2), some (.int (Int32.ofInt a_19)), some (.int (Int32.ofInt a_31)), some (.int (Int32.ofInt v_82)), some (.int (Int32.ofInt v_86)), w43]) (st' := [.int (Int32.ofInt a_19), .int (Int32.ofInt (v_89 + v_92))]) (σ' := (zN L X2 (zhi s8) R2 G2 (nc + 1) (ns + 2))) (fun n => rfl) ?_
                                              refine zW.jcmp_ne rfl (by omega) (fun c95 => ?_) (fun c95 => ?_)
                                              · skip
                                                refine zW.run 1 (pc' := 866) (ls' := [some (.ref 6), some (.int (Int32.ofInt n)), some (.int (Int32.ofInt w)), some (.ref P_2), some (.int (Int32.ofInt a_19)), some (.int (Int32.ofInt a_31)), some (.int (Int32.ofInt v_82)), some (.int (Int32.ofInt v_86)), w43]) (st' := [.int (Int32.ofInt 0)]) (σ' := (zN L X2 (zhi s8) R2 G2 (nc + 1) (ns + 2))) (fun n => rfl) ?_
                                                exfalso
                                                omega
                                              · skip
                                                refine zW.run 3 (pc' := 784) (ls' := [some (.ref 6), some (.int (Int32.ofInt n)), some (.int (Int32.ofInt w)), some (.ref P_2), some (.int (Int32.ofInt a_19)), some (.int (Int32.ofInt a_31)), some (.int (Int32.ofInt v_82)), some (.int (Int32.ofInt v_86)), w43]) (st' := [.int (Int32.ofInt 12), .int (Int32.ofInt 0), .ref 6]) (σ' := (zN L X2 (zhi s8) R2 G2 (nc + 1) (ns + 2))) (fun n => rfl) ?_
                                                refine zW.callV rfl (by decide) rfl rfl rfl rfl rfl (Nat.le_of_ble_eq_true rfl) ?_
                                                refine t_S_ofSide_0_12 S2 V9 (fun v_96 f97 f98 => ?_)
                                                show zW zro 165 787 [some (.ref 6), some (.int (Int32.ofInt n)), some (.int (Int32.ofInt w)), some (.ref P_2), some (.int (Int32.ofInt a_19)), some (.int (Int32.ofInt a_31)), some (.int (Int32.ofInt v_82)), some (.int (Int32.ofInt v_86)), w43] [.int (Int32.ofInt v_96)] (zN L X2 (zhi s8) R2 G2 (nc + 1) (ns + 2)) Q
                                                refine zW.run 3 (pc' := 791) (ls' := [some (.ref 6), some (.int (Int32.ofInt n)), some (.int (Int32.ofInt w)), some (.ref P_2), some (.int (Int32.ofInt a_19)), some (.int (Int32.ofInt a_31)), some (.int (Int32.ofInt v_82)), some (.int (Int32.ofInt v_86)), w43]) (st' := [.int (Int32.ofInt 12), .int (Int32.ofInt 1), .ref 6, .int (Int32.ofInt v_96)]) (σ' := (zN L X2 (zhi s8) R2 G2 (nc + 1) (ns + 2))) (fun n => rfl) ?_
                                                refine zW.callV rfl (by decide) rfl rfl rfl rfl rfl (Nat.le_of_ble_eq_true rfl) ?_
                                                refine t_S_ofSide_1_12 S2 V9 (fun v_99 f100 f101 => ?_)
                                                show zW zro 165 794 [some (.ref 6), some (.int (Int32.ofInt n)), some (.int (Int32.ofInt w)), some (.ref P_2), some (.int (Int32.ofInt a_19)), some (.int (Int32.ofInt a_31)), some (.int (Int32.ofInt v_82)), some (.int (Int32.ofInt v_86)), w43] [.int (Int32.ofInt v_99), .int (Int32.ofInt v_96)] (zN L X2 (zhi s8) R2 G2 (nc + 1) (ns + 2)) Q
                                                refine zW.jadd rfl ?_
                                                refine zW.run 1 (pc' := 797) (ls' := [some (.ref 6), some (.int (Int32.ofInt n)), some (.int (Int32.ofInt w)), some (.ref P_2), some (.int (Int32.ofInt a_19)), some (.int (Int32.ofInt a_31)), some (.int (Int32.ofInt v_82)), some (.int (Int32.ofInt v_86)), w43]) (st' := [.int (Int32.ofInt a_31), .int (Int32.ofInt (v_96 + v_99))]) (σ' := (zN L X2 (zhi s8) R2 G2 (nc + 1) (ns + 2))) (fun n => rfl) ?_
                                                refine zW.jcmp_ne rfl (by omega) (fun c102 => ?_) (fun c102 => ?_)
                                                · skip
                                                  refine zW.run 1 (pc' := 866) (ls' := [some (.ref 6), some (.int (Int32.ofInt n)), some (.int (Int32.ofInt w)), some (.ref P_2), some (.int (Int32.ofInt a_19)), some (.int (Int32.ofInt a_31)), some (.int (Int32.ofInt v_82)), some (.int (Int32.ofInt v_86)), w43]) (st' := [.int (Int32.ofInt 0)]) (σ' := (zN L X2 (zhi s8) R2 G2 (nc + 1) (ns + 2))) (fun n => rfl) ?_
                                                  exfalso
                                                  omega
                                                · skip
                                                  refine zW.run 2 (pc' := 803) (ls' := [some (.ref 6), some (.int (Int32.ofInt n)), some (.int (Int32.ofInt w)), some (.ref P_2), some (.int (Int32.ofInt a_19)), some (.int (Int32.ofInt a_31)), some (.int (Int32.ofInt v_82)), some (.int (Int32.ofInt v_86)), w43]) (st' := [.int (Int32.ofInt 11), .ref 6]) (σ' := (zN L X2 (zhi s8) R2 G2 (nc + 1) (ns + 2))) (fun n => rfl) ?_
                                                  refine zW.callV rfl (by decide) rfl rfl rfl rfl rfl (Nat.le_of_ble_eq_true rfl) ?_
                                                  refine t_S_ofSiege_11 S2 V9 (fun v_103 f104 f105 => ?_)
                                                  show zW zro 165 806 [some (.ref 6), some (.int (Int32.ofInt n)), some (.int (Int32.ofInt w)), some (.ref P_2), some (.int (Int32.ofInt a_19)), some (.int (Int32.ofInt a_31)), some (.int (Int32.ofInt v_82)), some (.int (Int32.ofInt v_86)), w43] [.int (Int32.ofInt v_103)] (zN L X2 (zhi s8) R2 G2 (nc + 1) (ns + 2)) Q
                                                  refine zW.run 3 (pc' := 809) (ls' := [some (.ref 6), some (.int (Int32.ofInt n)), some (.int (Int32.ofInt w)), some (.ref P_2), some (.int (Int32.ofInt a_19)), some (.int (Int32.ofInt a_31)), some (.int (Int32.ofInt v_82)), some (.int (Int32.ofInt v_86)), w43]) (st' := [.int (Int32.ofInt 5), .int (Int32.ofInt n), .ref 6, .int (Int32.ofInt v_103)]) (σ' := (zN L X2 (zhi s8) R2 G2 (nc + 1) (ns + 2))) (fun n => rfl) ?_
                                                  refine zW.callS rfl rfl rfl rfl rfl (Nat.le_of_ble_eq_true rfl) ?_
                                                  refine t_L_count S2 V9 (n := n) (x := 5) (by omega) (by omega) (fun v_106 f107 f108 => ?_)
                                                  show zW zro 165 812 [some (.ref 6), some (.int (Int32.ofInt n)), some (.int (Int32.ofInt w)), some (.ref P_2), some (.int (Int32.ofInt a_19)), some (.int (Int32.ofInt a_31)), some (.int (Int32.ofInt v_82)), some (.int (Int32.ofInt v_86)), w43] [.int (Int32.ofInt v_106), .int (Int32.ofInt v_103)] (zN L X2 (zhi s8) R2 G2 (nc + 1) (ns + 2)) Q
                                                  refine zW.jcmp_ne rfl (by omega) (fun c109 => ?_) (fun c109 => ?_)
                                                  · skip
                                                    refine zW.run 1 (pc' := 866) (ls' := [some (.ref 6), some (.int (Int32.ofInt n)), some (.int (Int32.ofInt w)), some (.ref P_2), some (.int (Int32.ofInt a_19)), some (.int (Int32.ofInt a_31)), some (.int (Int32.ofInt v_82)), some (.int (Int32.ofInt v_86)), w43]) (st' := [.int (Int32.ofInt 0)]) (σ' := (zN L X2 (zhi s8) R2 G2 (nc + 1) (ns + 2))) (fun n => rfl) ?_
                                                    exfalso
                                                    omega
                                                  · skip
                                                    refine zW.run 2 (pc' := 818) (ls' := [some (.ref 6), some (.int (Int32.ofInt n)), some (.int (Int32.ofInt w)), some (.ref P_2), some (.int (Int32.ofInt a_19)), some (.int (Int32.ofInt a_31)), some (.int (Int32.ofInt v_82)), some (.int (Int32.ofInt v_86)), w43]) (st' := [.int (Int32.ofInt 10), .ref 6]) (σ' := (zN L X2 (zhi s8) R2 G2 (nc + 1) (ns + 2))) (fun n => rfl) ?_
                                                    refine zW.callV rfl (by decide) rfl rfl rfl rfl rfl (Nat.le_of_ble_eq_true rfl) ?_
                                                    refine t_S_ofSiege_10 S2 V9 (fun v_110 f111 f112 => ?_)
                                                    show zW zro 165 821 [some (.ref 6), some (.int (Int32.ofInt n)), some (.int (Int32.ofInt w)), some (.ref P_2), some (.int (Int32.ofInt a_19)), some (.int (Int32.ofInt a_31)), some (.int (Int32.ofInt v_82)), some (.int (Int32.ofInt v_86)), w43] [.int (Int32.ofInt v_110)] (zN L X2 (zhi s8) R2 G2 (nc + 1) (ns + 2)) Q
                                                    refine zW.run 1 (pc' := 823) (ls' := [some (.ref 6), some (.int (Int32.ofInt n)), some (.int (Int32.ofInt w)), some (.ref P_2), some (.int (Int32.ofInt a_19)), some (.int (Int32.ofInt a_31)), some (.int (Int32.ofInt v_82)), some (.int (Int32.ofInt v_86)), w43]) (st' := [.int (Int32.ofInt v_86), .int (Int32.ofInt v_110)]) (σ' := (zN L X2 (zhi s8) R2 G2 (nc + 1) (ns + 2))) (fun n => rfl) ?_
                                                    refine zW.jcmp_ne rfl (by omega) (fun c113 => ?_) (fun c113 => ?_)
                                                    · skip
                                                      refine zW.run 1 (pc' := 866) (ls' := [some (.ref 6), some (.int (Int32.ofInt n)), some (.int (Int32.ofInt w)), some (.ref P_2), some (.int (Int32.ofInt a_19)), some (.int (Int32.ofInt a_31)), some (.int (Int32.ofInt v_82)), some (.int (Int32.ofInt v_86)), w43]) (st' := [.int (Int32.ofInt 0)]) (σ' := (zN L X2 (zhi s8) R2 G2 (nc + 1) (ns + 2))) (fun n => rfl) ?_
                                                      exfalso
                                                      omega
                                                    · skip
                                                      have J118 : ∀ (w114 : Option Value) (w115 : Option Value) (w116 : Option Value) (w117 : Option Value), zW zro 165 854 [some (.ref 6), some (.int (Int32.ofInt n)), some (.int (Int32.ofInt w)), w114, w115, w116, some (.int (Int32.ofInt v_82)), some (.int (Int32.ofInt v_86)), w117] [] (zN L X2 (zhi s8) R2 G2 (nc + 1) (ns + 2)) Q := by
                                                        intro w114 w115 w116 w117
                                                        refine zW.run 1 (pc' := 856) (ls' := [some (.ref 6), some (.int (Int32.ofInt n)), some (.int (Int32.ofInt w)), w114, w115, w116, some (.int (Int32.ofInt v_82)), some (.int (Int32.ofInt v_86)), w117]) (st' := [.int (Int32.ofInt v_86)]) (σ' := (zN L X2 (zhi s8) R2 G2 (nc + 1) (ns + 2))) (fun n => rfl) ?_
                                                        refine zW.jif_le rfl (by omega) (fun c119 => ?_) (fun c119 => ?_)
                                                        · skip
                                                          exact J74 w114 w115 w116 (some (.int (Int32.ofInt v_82))) (some (.int (Int32.ofInt v_86))) w117
                                                        · skip
                                                          refine zW.run 2 (pc' := 862) (ls' := [some (.ref 6), some (.int (Int32.ofInt n)), some (.int (Int32.ofInt w)), w114, w115, w116, some (.int (Int32.ofInt v_82)), some (.int (Int32.ofInt v_86)), w117]) (st' := [.int (Int32.ofInt 3), .int (Int32.ofInt v_82)]) (σ' := (zN L X2 (zhi s8) R2 G2 (nc + 1) (ns + 2))) (fun n => rfl) ?_
                                                          refine zW.jcmp_ge rfl (by omega) (fun c120 => ?_) (fun c120 => ?_)
                                                          · skip
                                                            exact J74 w114 w115 w116 (some (.int (Int32.ofInt v_82))) (some (.int (Int32.ofInt v_86))) w117
                                                          · skip
                                                            refine zW.run 1 (pc' := 866) (ls' := [some (.ref 6), some (.int (Int32.ofInt n)), some (.int (Int32.ofInt w)), w114, w115, w116, some (.int (Int32.ofInt v_82)), some (.int (Int32.ofInt v_86)), w117]) (st' := [.int (Int32.ofInt 0)]) (σ' := (zN L X2 (zhi s8) R2 G2 (nc + 1) (ns + 2))) (fun n => rfl) ?_
                                                            exfalso
                                                            omega
                                                      refine zW.run 1 (pc' := 828) (ls' := [some (.ref 6), some (.int (Int32.ofInt n)), some (.int (Int32.ofInt w)), some (.ref P_2), some (.int (Int32.ofInt a_19)), some (.int (Int32.ofInt a_31)), some (.int (Int32.ofInt v_82)), some (.int (Int32.ofInt v_86)), w43]) (st' := [.int (Int32.ofInt v_82)]) (σ' := (zN L X2 (zhi s8) R2 G2 (nc + 1) (ns + 2))) (fun n => rfl) ?_
                                                      refine zW.jif_lt rfl (by omega) (fun c121 => ?_) (fun c121 => ?_)
                                                      · skip
                                                        refine zW.run 1 (pc' := 866) (ls' := [some (.ref 6), some (.int (Int32.ofInt n)), some (.int (Int32.ofInt w)), some (.ref P_2), some (.int (Int32.ofInt a_19)), some (.int (Int32.ofInt a_31)), some (.int (Int32.ofInt v_82)), some (.int (Int32.ofInt v_86)), w43]) (st' := [.int (Int32.ofInt 0)]) (σ' := (zN L X2 (zhi s8) R2 G2 (nc + 1) (ns + 2))) (fun n => rfl) ?_
                                                        exfalso
                                                        omega
                                                      · skip
                                                        refine zW.run 2 (pc' := 834) (ls' := [some (.ref 6), some (.int (Int32.ofInt n)), some (.int (Int32.ofInt w)), some (.ref P_2), some (.int (Int32.ofInt a_19)), some (.int (Int32.ofInt a_31)), some (.int (Int32.ofInt v_82)), some (.int (Int32.ofInt v_86)), w43]) (st' := [.int (Int32.ofInt 5), .int (Int32.ofInt v_82)]) (σ' := (zN L X2 (zhi s8) R2 G2 (nc + 1) (ns + 2))) (fun n => rfl) ?_
                                                        refine zW.jcmp_gt rfl (by omega) (fun c122 => ?_) (fun c122 => ?_)
                                                        · skip
                                                          refine zW.run 1 (pc' := 866) (ls' := [some (.ref 6), some (.int (Int32.ofInt n)), some (.int (Int32.ofInt w)), some (.ref P_2), some (.int (Int32.ofInt a_19)), some (.int (Int32.ofInt a_31)), some (.int (Int32.ofInt v_82)), some (.int (Int32.ofInt v_86)), w43]) (st' := [.int (Int32.ofInt 0)]) (σ' := (zN L X2 (zhi s8) R2 G2 (nc + 1) (ns + 2))) (fun n => rfl) ?_
                                                          exfalso
                                                          omega
                                                        · skip
                                                          refine zW.run 2 (pc' := 840) (ls' := [some (.ref 6), some (.int (Int32.ofInt n)), some (.int (Int32.ofInt w)), some (.ref P_2), some (.int (Int32.ofInt a_19)), some (.int (Int32.ofInt a_31)), some (.int (Int32.ofInt v_82)), some (.int (Int32.ofInt v_86)), w43]) (st' := [.int (Int32.ofInt 3), .int (Int32.ofInt v_82)]) (σ' := (zN L X2 (zhi s8) R2 G2 (nc + 1) (ns + 2))) (fun n => rfl) ?_
                                                          refine zW.jcmp_eq rfl (by omega) (fun c123 => ?_) (fun c123 => ?_)
                                                          · skip
                                                            refine zW.run 1 (pc' := 851) (ls' := [some (.ref 6), some (.int (Int32.ofInt n)), some (.int (Int32.ofInt w)), some (.ref P_2), some (.int (Int32.ofInt a_19)), some (.int (Int32.ofInt a_31)), some (.int (Int32.ofInt v_82)), some (.int (Int32.ofInt v_86)), w43]) (st' := [.int (Int32.ofInt v_86)]) (σ' := (zN L X2 (zhi s8) R2 G2 (nc + 1) (ns + 2))) (fun n => rfl) ?_
                                                            refine zW.jif_eq rfl (by omega) (fun c124 => ?_) (fun c124 => ?_)
                                                            · skip
                                                              refine zW.run 1 (pc' := 866) (ls' := [some (.ref 6), some (.int (Int32.ofInt n)), some (.int (Int32.ofInt w)), some (.ref P_2), some (.int (Int32.ofInt a_19)), some (.int (Int32.ofInt a_31)), some (.int (Int32.ofInt v_82)), some (.int (Int32.ofInt v_86)), w43]) (st' := [.int (Int32.ofInt 0)]) (σ' := (zN L X2 (zhi s8) R2 G2 (nc + 1) (ns + 2))) (fun n => rfl) ?_
                                                              exfalso
                                                              omega
                                                            · skip
                                                              exact J118 (some (.ref P_2)) (some (.int (Int32.ofInt a_19))) (some (.int (Int32.ofInt a_31))) w43
                                                          · skip
                                                            refine zW.run 2 (pc' := 846) (ls' := [some (.ref 6), some (.int (Int32.ofInt n)), some (.int (Int32.ofInt w)), some (.ref P_2), some (.int (Int32.ofInt a_19)), some (.int (Int32.ofInt a_31)), some (.int (Int32.ofInt v_82)), some (.int (Int32.ofInt v_86)), w43]) (st' := [.int (Int32.ofInt 4), .int (Int32.ofInt v_82)]) (σ' := (zN L X2 (zhi s8) R2 G2 (nc + 1) (ns + 2))) (fun n => rfl) ?_
                                                            refine zW.jcmp_ne rfl (by omega) (fun c125 => ?_) (fun c125 => ?_)
                                                            · skip
                                                              exact J118 (some (.ref P_2)) (some (.int (Int32.ofInt a_19))) (some (.int (Int32.ofInt a_31))) w43
                                                            · skip
                                                              refine zW.run 1 (pc' := 851) (ls' := [some (.ref 6), some (.int (Int32.ofInt n)), some (.int (Int32.ofInt w)), some (.ref P_2), some (.int (Int32.ofInt a_19)), some (.int (Int32.ofInt a_31)), some (.int (Int32.ofInt v_82)), some (.int (Int32.ofInt v_86)), w43]) (st' := [.int (Int32.ofInt v_86)]) (σ' := (zN L X2 (zhi s8) R2 G2 (nc + 1) (ns + 2))) (fun n => rfl) ?_
                                                              refine zW.jif_eq rfl (by omega) (fun c126 => ?_) (fun c126 => ?_)
                                                              · skip
                                                                refine zW.run 1 (pc' := 866) (ls' := [some (.ref 6), some (.int (Int32.ofInt n)), some (.int (Int32.ofInt w)), some (.ref P_2), some (.int (Int32.ofInt a_19)), some (.int (Int32.ofInt a_31)), some (.int (Int32.ofInt v_82)), some (.int (Int32.ofInt v_86)), w43]) (st' := [.int (Int32.ofInt 0)]) (σ' := (zN L X2 (zhi s8) R2 G2 (nc + 1) (ns + 2))) (fun n => rfl) ?_
                                                                exfalso
                                                                omega
                                                              · skip
                                                                exact J118 (some (.ref P_2)) (some (.int (Int32.ofInt a_19))) (some (.int (Int32.ofInt a_31))) w43
                                            · skip
                                              refine zW.run 1 (pc' := 737) (ls' := [some (.ref 6), some (.int (Int32.ofInt n)), some (.int (Int32.ofInt w)), some (.ref P_2), some (.int (Int32.ofInt a_19)), some (.int (Int32.ofInt a_31)), some (.int (Int32.ofInt 1)), w42, w43]) (st' := [.int (Int32.ofInt 0)]) (σ' := (zN L X2 (zhi s8) R2 G2 (nc + 1) (ns + 2))) (fun n => rfl) ?_
                                              exfalso
                                              omega
                                  · skip
                                    refine zW.run 1 (pc' := 737) (ls' := [some (.ref 6), some (.int (Int32.ofInt n)), some (.int (Int32.ofInt w)), some (.ref P_2), some (.int (Int32.ofInt a_19)), some (.int (Int32.ofInt a_31)), some (.int (Int32.ofInt 0)), w42, w43]) (st' := [.int (Int32.ofInt 0)]) (σ' := (zN L X2 (zhi s8) R2 G2 (nc + 1) (ns + 2))) (fun n => rfl) ?_
                                    exfalso
                                    omega
                        · skip
                          have m2 := (zV_zM2 V9).2 i_41 (by omega)
                          refine zW.run 3 (pc' := 596) (ls' := [some (.ref 6), some (.int (Int32.ofInt n)), some (.int (Int32.ofInt w)), some (.ref P_2), some (.int (Int32.ofInt a_19)), some (.int (Int32.ofInt a_31)), some (.int (Int32.ofInt (i_41 : Int))), w42, w43]) (st' := [.int (Int32.ofInt 7), .int (Int32.ofInt (i_41 : Int)), .ref 6]) (σ' := (zN L X2 (zhi s8) R2 G2 (nc + 1) (ns + 2))) (fun n => rfl) ?_
                          refine zW.callV rfl (by decide) rfl rfl rfl rfl rfl (Nat.le_of_ble_eq_true rfl) ?_
                          refine t_S_ofMine_7 S2 V9 (i := i_41) (by omega) ?_
                          show zW zro 165 599 [some (.ref 6), some (.int (Int32.ofInt n)), some (.int (Int32.ofInt w)), some (.ref P_2), some (.int (Int32.ofInt a_19)), some (.int (Int32.ofInt a_31)), some (.int (Int32.ofInt (i_41 : Int))), w42, w43] [.int (Int32.ofInt (s8 (54 + 2 * i_41) 2))] (zN L X2 (zhi s8) R2 G2 (nc + 1) (ns + 2)) Q
                          have f127 := zV_min V9 (i := i_41) (by omega)
                          refine zW.run 1 (pc' := 600) (ls' := [some (.ref 6), some (.int (Int32.ofInt n)), some (.int (Int32.ofInt w)), some (.ref P_2), some (.int (Int32.ofInt a_19)), some (.int (Int32.ofInt a_31)), some (.int (Int32.ofInt (i_41 : Int))), w42, w43]) (st' := [.int (Int32.ofInt 1), .int (Int32.ofInt (s8 (54 + 2 * i_41) 2))]) (σ' := (zN L X2 (zhi s8) R2 G2 (nc + 1) (ns + 2))) (fun n => rfl) ?_
                          refine zW.jcmp_lt rfl (by omega) (fun c128 => ?_) (fun c128 => ?_)
                          · skip
                            refine zW.run 1 (pc' := 664) (ls' := [some (.ref 6), some (.int (Int32.ofInt n)), some (.int (Int32.ofInt w)), some (.ref P_2), some (.int (Int32.ofInt a_19)), some (.int (Int32.ofInt a_31)), some (.int (Int32.ofInt (i_41 : Int))), w42, w43]) (st' := [.int (Int32.ofInt 0)]) (σ' := (zN L X2 (zhi s8) R2 G2 (nc + 1) (ns + 2))) (fun n => rfl) ?_
                            exfalso
                            omega
                          · skip
                            refine zW.run 3 (pc' := 608) (ls' := [some (.ref 6), some (.int (Int32.ofInt n)), some (.int (Int32.ofInt w)), some (.ref P_2), some (.int (Int32.ofInt a_19)), some (.int (Int32.ofInt a_31)), some (.int (Int32.ofInt (i_41 : Int))), w42, w43]) (st' := [.int (Int32.ofInt 7), .int (Int32.ofInt (i_41 : Int)), .ref 6]) (σ' := (zN L X2 (zhi s8) R2 G2 (nc + 1) (ns + 2))) (fun n => rfl) ?_
                            refine zW.callV rfl (by decide) rfl rfl rfl rfl rfl (Nat.le_of_ble_eq_true rfl) ?_
                            refine t_S_ofMine_7 S2 V9 (i := i_41) (by omega) ?_
                            show zW zro 165 611 [some (.ref 6), some (.int (Int32.ofInt n)), some (.int (Int32.ofInt w)), some (.ref P_2), some (.int (Int32.ofInt a_19)), some (.int (Int32.ofInt a_31)), some (.int (Int32.ofInt (i_41 : Int))), w42, w43] [.int (Int32.ofInt (s8 (54 + 2 * i_41) 2))] (zN L X2 (zhi s8) R2 G2 (nc + 1) (ns + 2)) Q
                            refine zW.run 1 (pc' := 613) (ls' := [some (.ref 6), some (.int (Int32.ofInt n)), some (.int (Int32.ofInt w)), some (.ref P_2), some (.int (Int32.ofInt a_19)), some (.int (Int32.ofInt a_31)), some (.int (Int32.ofInt (i_41 : Int))), w42, w43]) (st' := [.int (Int32.ofInt 6), .int (Int32.ofInt (s8 (54 + 2 * i_41) 2))]) (σ' := (zN L X2 (zhi s8) R2 G2 (nc + 1) (ns + 2))) (fun n => rfl) ?_
                            refine zW.jcmp_gt rfl (by omega) (fun c129 => ?_) (fun c129 => ?_)
                            · skip
                              refine zW.run 1 (pc' := 664) (ls' := [some (.ref 6), some (.int (Int32.ofInt n)), some (.int (Int32.ofInt w)), some (.ref P_2), some (.int (Int32.ofInt a_19)), some (.int (Int32.ofInt a_31)), some (.int (Int32.ofInt (i_41 : Int))), w42, w43]) (st' := [.int (Int32.ofInt 0)]) (σ' := (zN L X2 (zhi s8) R2 G2 (nc + 1) (ns + 2))) (fun n => rfl) ?_
                              exfalso
                              omega
                            · skip
                              refine zW.run 3 (pc' := 621) (ls' := [some (.ref 6), some (.int (Int32.ofInt n)), some (.int (Int32.ofInt w)), some (.ref P_2), some (.int (Int32.ofInt a_19)), some (.int (Int32.ofInt a_31)), some (.int (Int32.ofInt (i_41 : Int))), w42, w43]) (st' := [.int (Int32.ofInt 6), .int (Int32.ofInt (i_41 : Int)), .ref 6]) (σ' := (zN L X2 (zhi s8) R2 G2 (nc + 1) (ns + 2))) (fun n => rfl) ?_
                              refine zW.callV rfl (by decide) rfl rfl rfl rfl rfl (Nat.le_of_ble_eq_true rfl) ?_
                              refine t_S_ofMine_6 S2 V9 (i := i_41) (by omega) ?_
                              show zW zro 165 624 [some (.ref 6), some (.int (Int32.ofInt n)), some (.int (Int32.ofInt w)), some (.ref P_2), some (.int (Int32.ofInt a_19)), some (.int (Int32.ofInt a_31)), some (.int (Int32.ofInt (i_41 : Int))), w42, w43] [.int (Int32.ofInt (s8 (54 + 2 * i_41) 6))] (zN L X2 (zhi s8) R2 G2 (nc + 1) (ns + 2)) Q
                              refine zW.run 1 (pc' := 625) (ls' := [some (.ref 6), some (.int (Int32.ofInt n)), some (.int (Int32.ofInt w)), some (.ref P_2), some (.int (Int32.ofInt a_19)), some (.int (Int32.ofInt a_31)), some (.int (Int32.ofInt (i_41 : Int))), w42, w43]) (st' := [.int (Int32.ofInt 3), .int (Int32.ofInt (s8 (54 + 2 * i_41) 6))]) (σ' := (zN L X2 (zhi s8) R2 G2 (nc + 1) (ns + 2))) (fun n => rfl) ?_
                              refine zW.jcmp_gt rfl (by omega) (fun c130 => ?_) (fun c130 => ?_)
                              · skip
                                refine zW.run 1 (pc' := 664) (ls' := [some (.ref 6), some (.int (Int32.ofInt n)), some (.int (Int32.ofInt w)), some (.ref P_2), some (.int (Int32.ofInt a_19)), some (.int (Int32.ofInt a_31)), some (.int (Int32.ofInt (i_41 : Int))), w42, w43]) (st' := [.int (Int32.ofInt 0)]) (σ' := (zN L X2 (zhi s8) R2 G2 (nc + 1) (ns + 2))) (fun n => rfl) ?_
                                exfalso
                                omega
                              · skip
                                refine zW.run 3 (pc' := 633) (ls' := [some (.ref 6), some (.int (Int32.ofInt n)), some (.int (Int32.ofInt w)), some (.ref P_2), some (.int (Int32.ofInt a_19)), some (.int (Int32.ofInt a_31)), some (.int (Int32.ofInt (i_41 : Int))), w42, w43]) (st' := [.int (Int32.ofInt 8), .int (Int32.ofInt (i_41 : Int)), .ref 6]) (σ' := (zN L X2 (zhi s8) R2 G2 (nc + 1) (ns + 2))) (fun n => rfl) ?_
                                refine zW.callV rfl (by decide) rfl rfl rfl rfl rfl (Nat.le_of_ble_eq_true rfl) ?_
                                refine t_S_ofMine_8 S2 V9 (i := i_41) (by omega) (fun f131 f132 => ?_) ?_
                                · skip
                                  show zW zro 165 636 [some (.ref 6), some (.int (Int32.ofInt n)), some (.int (Int32.ofInt w)), some (.ref P_2), some (.int (Int32.ofInt a_19)), some (.int (Int32.ofInt a_31)), some (.int (Int32.ofInt (i_41 : Int))), w42, w43] [.int (Int32.ofInt 1)] (zN L X2 (zhi s8) R2 G2 (nc + 1) (ns + 2)) Q
                                  refine zW.run 5 (pc' := 645) (ls' := [some (.ref 6), some (.int (Int32.ofInt n)), some (.int (Int32.ofInt w)), some (.ref P_2), some (.int (Int32.ofInt a_19)), some (.int (Int32.ofInt a_31)), some (.int (Int32.ofInt (i_41 : Int))), w42, w43]) (st' := [.int (Int32.ofInt 6), .int (Int32.ofInt (i_41 : Int)), .ref 6]) (σ' := (zN L X2 (zhi s8) R2 G2 (nc + 1) (ns + 2))) (fun n => rfl) ?_
                                  refine zW.callV rfl (by decide) rfl rfl rfl rfl rfl (Nat.le_of_ble_eq_true rfl) ?_
                                  refine t_S_ofMine_6 S2 V9 (i := i_41) (by omega) ?_
                                  show zW zro 165 648 [some (.ref 6), some (.int (Int32.ofInt n)), some (.int (Int32.ofInt w)), some (.ref P_2), some (.int (Int32.ofInt a_19)), some (.int (Int32.ofInt a_31)), some (.int (Int32.ofInt (i_41 : Int))), w42, w43] [.int (Int32.ofInt (s8 (54 + 2 * i_41) 6))] (zN L X2 (zhi s8) R2 G2 (nc + 1) (ns + 2)) Q
                                  refine zW.jif_ne rfl (by omega) (fun c133 => ?_) (fun c133 => ?_)
                                  · skip
                                    refine zW.run 1 (pc' := 664) (ls' := [some (.ref 6), some (.int (Int32.ofInt n)), some (.int (Int32.ofInt w)), some (.ref P_2), some (.int (Int32.ofInt a_19)), some (.int (Int32.ofInt a_31)), some (.int (Int32.ofInt (i_41 : Int))), w42, w43]) (st' := [.int (Int32.ofInt 0)]) (σ' := (zN L X2 (zhi s8) R2 G2 (nc + 1) (ns + 2))) (fun n => rfl) ?_
                                    exfalso
                                    omega
                                  · skip
                                    refine zW.run 3 (pc' := 656) (ls' := [some (.ref 6), some (.int (Int32.ofInt n)), some (.int (Int32.ofInt w)), some (.ref P_2), some (.int (Int32.ofInt a_19)), some (.int (Int32.ofInt a_31)), some (.int (Int32.ofInt (i_41 : Int))), w42, w43]) (st' := [.int (Int32.ofInt 7), .int (Int32.ofInt (i_41 : Int)), .ref 6]) (σ' := (zN L X2 (zhi s8) R2 G2 (nc + 1) (ns + 2))) (fun n => rfl) ?_
                                    refine zW.callV rfl (by decide) rfl rfl rfl rfl rfl (Nat.le_of_ble_eq_true rfl) ?_
                                    refine t_S_ofMine_7 S2 V9 (i := i_41) (by omega) ?_
                                    show zW zro 165 659 [some (.ref 6), some (.int (Int32.ofInt n)), some (.int (Int32.ofInt w)), some (.ref P_2), some (.int (Int32.ofInt a_19)), some (.int (Int32.ofInt a_31)), some (.int (Int32.ofInt (i_41 : Int))), w42, w43] [.int (Int32.ofInt (s8 (54 + 2 * i_41) 2))] (zN L X2 (zhi s8) R2 G2 (nc + 1) (ns + 2)) Q
                                    refine zW.run 1 (pc' := 660) (ls' := [some (.ref 6), some (.int (Int32.ofInt n)), some (.int (Int32.ofInt w)), some (.ref P_2), some (.int (Int32.ofInt a_19)), some (.int (Int32.ofInt a_31)), some (.int (Int32.ofInt (i_41 : Int))), w42, w43]) (st' := [.int (Int32.ofInt 2), .int (Int32.ofInt (s8 (54 + 2 * i_41) 2))]) (σ' := (zN L X2 (zhi s8) R2 G2 (nc + 1) (ns + 2))) (fun n => rfl) ?_
                                    refine zW.jcmp_ge rfl (by omega) (fun c134 => ?_) (fun c134 => ?_)
                                    · skip
                                      refine zW.jinc (ls' := [some (.ref 6), some (.int (Int32.ofInt n)), some (.int (Int32.ofInt w)), some (.ref P_2), some (.int (Int32.ofInt a_19)), some (.int (Int32.ofInt a_31)), some (.int (Int32.ofInt ((i_41 : Int) + 1))), w42, w43]) rfl (Nat.le_of_ble_eq_true rfl) rfl rfl ?_
                                      refine zW.run 1 (pc' := 580) (ls' := [some (.ref 6), some (.int (Int32.ofInt n)), some (.int (Int32.ofInt w)), some (.ref P_2), some (.int (Int32.ofInt a_19)), some (.int (Int32.ofInt a_31)), some (.int (Int32.ofInt ((i_41 : Int) + 1))), w42, w43]) (st' := []) (σ' := (zN L X2 (zhi s8) R2 G2 (nc + 1) (ns + 2))) (fun n => rfl) ?_
                                      exact ih46 (i_41 + 1) w42 w43 (by omega) (by omega)
                                    · skip
                                      refine zW.run 1 (pc' := 664) (ls' := [some (.ref 6), some (.int (Int32.ofInt n)), some (.int (Int32.ofInt w)), some (.ref P_2), some (.int (Int32.ofInt a_19)), some (.int (Int32.ofInt a_31)), some (.int (Int32.ofInt (i_41 : Int))), w42, w43]) (st' := [.int (Int32.ofInt 0)]) (σ' := (zN L X2 (zhi s8) R2 G2 (nc + 1) (ns + 2))) (fun n => rfl) ?_
                                      exfalso
                                      omega
                                · skip
                                  show zW zro 165 636 [some (.ref 6), some (.int (Int32.ofInt n)), some (.int (Int32.ofInt w)), some (.ref P_2), some (.int (Int32.ofInt a_19)), some (.int (Int32.ofInt a_31)), some (.int (Int32.ofInt (i_41 : Int))), w42, w43] [.int (Int32.ofInt 0)] (zN L X2 (zhi s8) R2 G2 (nc + 1) (ns + 2)) Q
                                  refine zW.run 2 (pc' := 665) (ls' := [some (.ref 6), some (.int (Int32.ofInt n)), some (.int (Int32.ofInt w)), some (.ref P_2), some (.int (Int32.ofInt a_19)), some (.int (Int32.ofInt a_31)), some (.int (Int32.ofInt (i_41 : Int))), w42, w43]) (st' := []) (σ' := (zN L X2 (zhi s8) R2 G2 (nc + 1) (ns + 2))) (fun n => rfl) ?_
                                  refine zW.jinc (ls' := [some (.ref 6), some (.int (Int32.ofInt n)), some (.int (Int32.ofInt w)), some (.ref P_2), some (.int (Int32.ofInt a_19)), some (.int (Int32.ofInt a_31)), some (.int (Int32.ofInt ((i_41 : Int) + 1))), w42, w43]) rfl (Nat.le_of_ble_eq_true rfl) rfl rfl ?_
                                  refine zW.run 1 (pc' := 580) (ls' := [some (.ref 6), some (.int (Int32.ofInt n)), some (.int (Int32.ofInt w)), some (.ref P_2), some (.int (Int32.ofInt a_19)), some (.int (Int32.ofInt a_31)), some (.int (Int32.ofInt ((i_41 : Int) + 1))), w42, w43]) (st' := []) (σ' := (zN L X2 (zhi s8) R2 G2 (nc + 1) (ns + 2))) (fun n => rfl) ?_
                                  exact ih46 (i_41 + 1) w42 w43 (by omega) (by omega)
                    exact J45 _ 0 w32 w33 (by omega) (Nat.lt_succ_self _)
                  · skip
                    have g2 := zV_zG2 V9 i_30 (by omega)
                    refine zW.run 4 (pc' := 460) (ls' := [some (.ref 6), some (.int (Int32.ofInt n)), some (.int (Int32.ofInt w)), some (.ref P_2), some (.int (Int32.ofInt a_19)), some (.int (Int32.ofInt a_31)), some (.int (Int32.ofInt (i_30 : Int))), w32, w33]) (st' := [.int (Int32.ofInt 5), .int (Int32.ofInt (i_30 : Int)), .ref 6, .int (Int32.ofInt a_31)]) (σ' := (zN L X2 (zhi s8) R2 G2 (nc + 1) (ns + 2))) (fun n => rfl) ?_
                    refine zW.callV rfl (by decide) rfl rfl rfl rfl rfl (Nat.le_of_ble_eq_true rfl) ?_
                    refine t_S_ofGun_5 S2 V9 (i := i_30) (by omega) ?_
                    show zW zro 165 463 [some (.ref 6), some (.int (Int32.ofInt n)), some (.int (Int32.ofInt w)), some (.ref P_2), some (.int (Int32.ofInt a_19)), some (.int (Int32.ofInt a_31)), some (.int (Int32.ofInt (i_30 : Int))), w32, w33] [.int (Int32.ofInt (s8 (26 + i_30) 5)), .int (Int32.ofInt a_31)] (zN L X2 (zhi s8) R2 G2 (nc + 1) (ns + 2)) Q
                    have f135 := zV_gun V9 (i := i_30) (by omega)
                    have J137 : ∀ (v136 : Int), (¬ (s8 (26 + i_30) 5) = 0 ∧ v136 = 0) ∨ ((s8 (26 + i_30) 5) = 0 ∧ v136 = 1) → zW zro 165 471 [some (.ref 6), some (.int (Int32.ofInt n)), some (.int (Int32.ofInt w)), some (.ref P_2), some (.int (Int32.ofInt a_19)), some (.int (Int32.ofInt a_31)), some (.int (Int32.ofInt (i_30 : Int))), w32, w33] [.int (Int32.ofInt v136), .int (Int32.ofInt a_31)] (zN L X2 (zhi s8) R2 G2 (nc + 1) (ns + 2)) Q := by
                      intro v136 c138
                      refine zW.jadd rfl ?_
                      refine zW.run 4 (pc' := 478) (ls' := [some (.ref 6), some (.int (Int32.ofInt n)), some (.int (Int32.ofInt w)), some (.ref P_2), some (.int (Int32.ofInt a_19)), some (.int (Int32.ofInt (a_31 + v136))), some (.int (Int32.ofInt (i_30 : Int))), w32, w33]) (st' := [.int (Int32.ofInt 3), .int (Int32.ofInt (i_30 : Int)), .ref 6]) (σ' := (zN L X2 (zhi s8) R2 G2 (nc + 1) (ns + 2))) (fun n => rfl) ?_
                      refine zW.callV rfl (by decide) rfl rfl rfl rfl rfl (Nat.le_of_ble_eq_true rfl) ?_
                      refine t_S_ofGun_3 S2 V9 (i := i_30) (by omega) ?_
                      show zW zro 165 481 [some (.ref 6), some (.int (Int32.ofInt n)), some (.int (Int32.ofInt w)), some (.ref P_2), some (.int (Int32.ofInt a_19)), some (.int (Int32.ofInt (a_31 + v136))), some (.int (Int32.ofInt (i_30 : Int))), w32, w33] [.int (Int32.ofInt (s8 (26 + i_30) 3))] (zN L X2 (zhi s8) R2 G2 (nc + 1) (ns + 2)) Q
                      refine zW.jif_lt rfl (by omega) (fun c139 => ?_) (fun c139 => ?_)
                      · skip
                        refine zW.run 1 (pc' := 570) (ls' := [some (.ref 6), some (.int (Int32.ofInt n)), some (.int (Int32.ofInt w)), some (.ref P_2), some (.int (Int32.ofInt a_19)), some (.int (Int32.ofInt (a_31 + v136))), some (.int (Int32.ofInt (i_30 : Int))), w32, w33]) (st' := [.int (Int32.ofInt 0)]) (σ' := (zN L X2 (zhi s8) R2 G2 (nc + 1) (ns + 2))) (fun n => rfl) ?_
                        exfalso
                        omega
                      · skip
                        refine zW.run 3 (pc' := 488) (ls' := [some (.ref 6), some (.int (Int32.ofInt n)), some (.int (Int32.ofInt w)), some (.ref P_2), some (.int (Int32.ofInt a_19)), some (.int (Int32.ofInt (a_31 + v136))), some (.int (Int32.ofInt (i_30 : Int))), w32, w33]) (st' := [.int (Int32.ofInt 3), .int (Int32.ofInt (i_30 : Int)), .ref 6]) (σ' := (zN L X2 (zhi s8) R2 G2 (nc + 1) (ns + 2))) (fun n => rfl) ?_
                        refine zW.callV rfl (by decide) rfl rfl rfl rfl rfl (Nat.le_of_ble_eq_true rfl) ?_
                        refine t_S_ofGun_3 S2 V9 (i := i_30) (by omega) ?_
                        show zW zro 165 491 [some (.ref 6), some (.int (Int32.ofInt n)), some (.int (Int32.ofInt w)), some (.ref P_2), some (.int (Int32.ofInt a_19)), some (.int (Int32.ofInt (a_31 + v136))), some (.int (Int32.ofInt (i_30 : Int))), w32, w33] [.int (Int32.ofInt (s8 (26 + i_30) 3))] (zN L X2 (zhi s8) R2 G2 (nc + 1) (ns + 2)) Q
                        refine zW.run 1 (pc' := 492) (ls' := [some (.ref 6), some (.int (Int32.ofInt n)), some (.int (Int32.ofInt w)), some (.ref P_2), some (.int (Int32.ofInt a_19)), some (.int (Int32.ofInt (a_31 + v136))), some (.int (Int32.ofInt (i_30 : Int))), w32, w33]) (st' := [.int (Int32.ofInt 3), .int (Int32.ofInt (s8 (26 + i_30) 3))]) (σ' := (zN L X2 (zhi s8) R2 G2 (nc + 1) (ns + 2))) (fun n => rfl) ?_
                        refine zW.jcmp_gt rfl (by omega) (fun c140 => ?_) (fun c140 => ?_)
                        · skip
                          refine zW.run 1 (pc' := 570) (ls' := [some (.ref 6), some (.int (Int32.ofInt n)), some (.int (Int32.ofInt w)), some (.ref P_2), some (.int (Int32.ofInt a_19)), some (.int (Int32.ofInt (a_31 + v136))), some (.int (Int32.ofInt (i_30 : Int))), w32, w33]) (st' := [.int (Int32.ofInt 0)]) (σ' := (zN L X2 (zhi s8) R2 G2 (nc + 1) (ns + 2))) (fun n => rfl) ?_
                          exfalso
                          omega
                        · skip
                          refine zW.run 3 (pc' := 499) (ls' := [some (.ref 6), some (.int (Int32.ofInt n)), some (.int (Int32.ofInt w)), some (.ref P_2), some (.int (Int32.ofInt a_19)), some (.int (Int32.ofInt (a_31 + v136))), some (.int (Int32.ofInt (i_30 : Int))), w32, w33]) (st' := [.int (Int32.ofInt 5), .int (Int32.ofInt (i_30 : Int)), .ref 6]) (σ' := (zN L X2 (zhi s8) R2 G2 (nc + 1) (ns + 2))) (fun n => rfl) ?_
                          refine zW.callV rfl (by decide) rfl rfl rfl rfl rfl (Nat.le_of_ble_eq_true rfl) ?_
                          refine t_S_ofGun_5 S2 V9 (i := i_30) (by omega) ?_
                          show zW zro 165 502 [some (.ref 6), some (.int (Int32.ofInt n)), some (.int (Int32.ofInt w)), some (.ref P_2), some (.int (Int32.ofInt a_19)), some (.int (Int32.ofInt (a_31 + v136))), some (.int (Int32.ofInt (i_30 : Int))), w32, w33] [.int (Int32.ofInt (s8 (26 + i_30) 5))] (zN L X2 (zhi s8) R2 G2 (nc + 1) (ns + 2)) Q
                          refine zW.jif_ne rfl (by omega) (fun c141 => ?_) (fun c141 => ?_)
                          · skip
                            refine zW.run 3 (pc' := 522) (ls' := [some (.ref 6), some (.int (Int32.ofInt n)), some (.int (Int32.ofInt w)), some (.ref P_2), some (.int (Int32.ofInt a_19)), some (.int (Int32.ofInt (a_31 + v136))), some (.int (Int32.ofInt (i_30 : Int))), w32, w33]) (st' := [.int (Int32.ofInt 7), .int (Int32.ofInt (i_30 : Int)), .ref 6]) (σ' := (zN L X2 (zhi s8) R2 G2 (nc + 1) (ns + 2))) (fun n => rfl) ?_
                            refine zW.callV rfl (by decide) rfl rfl rfl rfl rfl (Nat.le_of_ble_eq_true rfl) ?_
                            refine t_S_ofGun_7 S2 V9 (i := i_30) (by omega) (fun v_142 f143 f144 f145 f146 => ?_)
                            show zW zro 165 525 [some (.ref 6), some (.int (Int32.ofInt n)), some (.int (Int32.ofInt w)), some (.ref P_2), some (.int (Int32.ofInt a_19)), some (.int (Int32.ofInt (a_31 + v136))), some (.int (Int32.ofInt (i_30 : Int))), w32, w33] [.int (Int32.ofInt v_142)] (zN L X2 (zhi s8) R2 G2 (nc + 1) (ns + 2)) Q
                            refine zW.run 4 (pc' := 530) (ls' := [some (.ref 6), some (.int (Int32.ofInt n)), some (.int (Int32.ofInt w)), some (.ref P_2), some (.int (Int32.ofInt a_19)), some (.int (Int32.ofInt (a_31 + v136))), some (.int (Int32.ofInt (i_30 : Int))), w32, w33]) (st' := [.int (Int32.ofInt 3), .int (Int32.ofInt (i_30 : Int)), .ref 6, .int (Int32.ofInt 4), .int (Int32.ofInt v_142)]) (σ' := (zN L X2 (zhi s8) R2 G2 (nc + 1) (ns + 2))) (fun n => rfl) ?_
                            refine zW.callV rfl (by decide) rfl rfl rfl rfl rfl (Nat.le_of_ble_eq_true rfl) ?_
                            refine t_S_ofGun_3 S2 V9 (i := i_30) (by omega) ?_
                            show zW zro 165 533 [some (.ref 6), some (.int (Int32.ofInt n)), some (.int (Int32.ofInt w)), some (.ref P_2), some (.int (Int32.ofInt a_19)), some (.int (Int32.ofInt (a_31 + v136))), some (.int (Int32.ofInt (i_30 : Int))), w32, w33] [.int (Int32.ofInt (s8 (26 + i_30) 3)), .int (Int32.ofInt 4), .int (Int32.ofInt v_142)] (zN L X2 (zhi s8) R2 G2 (nc + 1) (ns + 2)) Q
                            refine zW.jsub rfl ?_
                            refine zW.jcmp_gt rfl (by omega) (fun c147 => ?_) (fun c147 => ?_)
                            · skip
                              refine zW.run 1 (pc' := 570) (ls' := [some (.ref 6), some (.int (Int32.ofInt n)), some (.int (Int32.ofInt w)), some (.ref P_2), some (.int (Int32.ofInt a_19)), some (.int (Int32.ofInt (a_31 + v136))), some (.int (Int32.ofInt (i_30 : Int))), w32, w33]) (st' := [.int (Int32.ofInt 0)]) (σ' := (zN L X2 (zhi s8) R2 G2 (nc + 1) (ns + 2))) (fun n => rfl) ?_
                              exfalso
                              omega
                            · skip
                              refine zW.run 3 (pc' := 542) (ls' := [some (.ref 6), some (.int (Int32.ofInt n)), some (.int (Int32.ofInt w)), some (.ref P_2), some (.int (Int32.ofInt a_19)), some (.int (Int32.ofInt (a_31 + v136))), some (.int (Int32.ofInt (i_30 : Int))), w32, w33]) (st' := [.int (Int32.ofInt 7), .int (Int32.ofInt (i_30 : Int)), .ref 6]) (σ' := (zN L X2 (zhi s8) R2 G2 (nc + 1) (ns + 2))) (fun n => rfl) ?_
                              refine zW.callV rfl (by decide) rfl rfl rfl rfl rfl (Nat.le_of_ble_eq_true rfl) ?_
                              refine t_S_ofGun_7 S2 V9 (i := i_30) (by omega) (fun v_148 f149 f150 f151 f152 => ?_)
                              show zW zro 165 545 [some (.ref 6), some (.int (Int32.ofInt n)), some (.int (Int32.ofInt w)), some (.ref P_2), some (.int (Int32.ofInt a_19)), some (.int (Int32.ofInt (a_31 + v136))), some (.int (Int32.ofInt (i_30 : Int))), w32, w33] [.int (Int32.ofInt v_148)] (zN L X2 (zhi s8) R2 G2 (nc + 1) (ns + 2)) Q
                              refine zW.jif_le rfl (by omega) (fun c153 => ?_) (fun c153 => ?_)
                              · skip
                                refine zW.jinc (ls' := [some (.ref 6), some (.int (Int32.ofInt n)), some (.int (Int32.ofInt w)), some (.ref P_2), some (.int (Int32.ofInt a_19)), some (.int (Int32.ofInt (a_31 + v136))), some (.int (Int32.ofInt ((i_30 : Int) + 1))), w32, w33]) rfl (Nat.le_of_ble_eq_true rfl) rfl rfl ?_
                                refine zW.run 1 (pc' := 447) (ls' := [some (.ref 6), some (.int (Int32.ofInt n)), some (.int (Int32.ofInt w)), some (.ref P_2), some (.int (Int32.ofInt a_19)), some (.int (Int32.ofInt (a_31 + v136))), some (.int (Int32.ofInt ((i_30 : Int) + 1))), w32, w33]) (st' := []) (σ' := (zN L X2 (zhi s8) R2 G2 (nc + 1) (ns + 2))) (fun n => rfl) ?_
                                exact ih38 (i_30 + 1) (a_31 + v136) w32 w33 (by omega) (by omega) (by omega) (by omega)
                              · skip
                                refine zW.run 3 (pc' := 552) (ls' := [some (.ref 6), some (.int (Int32.ofInt n)), some (.int (Int32.ofInt w)), some (.ref P_2), some (.int (Int32.ofInt a_19)), some (.int (Int32.ofInt (a_31 + v136))), some (.int (Int32.ofInt (i_30 : Int))), w32, w33]) (st' := [.int (Int32.ofInt 5), .int (Int32.ofInt (i_30 : Int)), .ref 6]) (σ' := (zN L X2 (zhi s8) R2 G2 (nc + 1) (ns + 2))) (fun n => rfl) ?_
                                refine zW.callV rfl (by decide) rfl rfl rfl rfl rfl (Nat.le_of_ble_eq_true rfl) ?_
                                refine t_S_ofGun_5 S2 V9 (i := i_30) (by omega) ?_
                                show zW zro 165 555 [some (.ref 6), some (.int (Int32.ofInt n)), some (.int (Int32.ofInt w)), some (.ref P_2), some (.int (Int32.ofInt a_19)), some (.int (Int32.ofInt (a_31 + v136))), some (.int (Int32.ofInt (i_30 : Int))), w32, w33] [.int (Int32.ofInt (s8 (26 + i_30) 5))] (zN L X2 (zhi s8) R2 G2 (nc + 1) (ns + 2)) Q
                                refine zW.jif_gt rfl (by omega) (fun c154 => ?_) (fun c154 => ?_)
                                · skip
                                  refine zW.run 1 (pc' := 570) (ls' := [some (.ref 6), some (.int (Int32.ofInt n)), some (.int (Int32.ofInt w)), some (.ref P_2), some (.int (Int32.ofInt a_19)), some (.int (Int32.ofInt (a_31 + v136))), some (.int (Int32.ofInt (i_30 : Int))), w32, w33]) (st' := [.int (Int32.ofInt 0)]) (σ' := (zN L X2 (zhi s8) R2 G2 (nc + 1) (ns + 2))) (fun n => rfl) ?_
                                  exfalso
                                  omega
                                · skip
                                  refine zW.run 3 (pc' := 563) (ls' := [some (.ref 6), some (.int (Int32.ofInt n)), some (.int (Int32.ofInt w)), some (.ref P_2), some (.int (Int32.ofInt a_19)), some (.int (Int32.ofInt (a_31 + v136))), some (.int (Int32.ofInt (i_30 : Int))), w32, w33]) (st' := [.int (Int32.ofInt 6), .int (Int32.ofInt (i_30 : Int)), .ref 6]) (σ' := (zN L X2 (zhi s8) R2 G2 (nc + 1) (ns + 2))) (fun n => rfl) ?_
                                  refine zW.callV rfl (by decide) rfl rfl rfl rfl rfl (Nat.le_of_ble_eq_true rfl) ?_
                                  refine t_S_ofGun_6 S2 V9 (i := i_30) (by omega) ?_
                                  show zW zro 165 566 [some (.ref 6), some (.int (Int32.ofInt n)), some (.int (Int32.ofInt w)), some (.ref P_2), some (.int (Int32.ofInt a_19)), some (.int (Int32.ofInt (a_31 + v136))), some (.int (Int32.ofInt (i_30 : Int))), w32, w33] [.int (Int32.ofInt (s8 (26 + i_30) 6))] (zN L X2 (zhi s8) R2 G2 (nc + 1) (ns + 2)) Q
                                  refine zW.jif_ge rfl (by omega) (fun c155 => ?_) (fun c155 => ?_)
                                  · skip
                                    refine zW.jinc (ls' := [some (.ref 6), some (.int (Int32.ofInt n)), some (.int (Int32.ofInt w)), some (.ref P_2), some (.int (Int32.ofInt a_19)), some (.int (Int32.ofInt (a_31 + v136))), some (.int (Int32.ofInt ((i_30 : Int) + 1))), w32, w33]) rfl (Nat.le_of_ble_eq_true rfl) rfl rfl ?_
                                    refine zW.run 1 (pc' := 447) (ls' := [some (.ref 6), some (.int (Int32.ofInt n)), some (.int (Int32.ofInt w)), some (.ref P_2), some (.int (Int32.ofInt a_19)), some (.int (Int32.ofInt (a_31 + v136))), some (.int (Int32.ofInt ((i_30 : Int) + 1))), w32, w33]) (st' := []) (σ' := (zN L X2 (zhi s8) R2 G2 (nc + 1) (ns + 2))) (fun n => rfl) ?_
                                    exact ih38 (i_30 + 1) (a_31 + v136) w32 w33 (by omega) (by omega) (by omega) (by omega)
                                  · skip
                                    refine zW.run 1 (pc' := 570) (ls' := [some (.ref 6), some (.int (Int32.ofInt n)), some (.int (Int32.ofInt w)), some (.ref P_2), some (.int (Int32.ofInt a_19)), some (.int (Int32.ofInt (a_31 + v136))), some (.int (Int32.ofInt (i_30 : Int))), w32, w33]) (st' := [.int (Int32.ofInt 0)]) (σ' := (zN L X2 (zhi s8) R2 G2 (nc + 1) (ns + 2))) (fun n => rfl) ?_
                                    exfalso
                                    omega
                          · skip
                            refine zW.run 3 (pc' := 509) (ls' := [some (.ref 6), some (.int (Int32.ofInt n)), some (.int (Int32.ofInt w)), some (.ref P_2), some (.int (Int32.ofInt a_19)), some (.int (Int32.ofInt (a_31 + v136))), some (.int (Int32.ofInt (i_30 : Int))), w32, w33]) (st' := [.int (Int32.ofInt 4), .int (Int32.ofInt (i_30 : Int)), .ref 6]) (σ' := (zN L X2 (zhi s8) R2 G2 (nc + 1) (ns + 2))) (fun n => rfl) ?_
                            refine zW.callV rfl (by decide) rfl rfl rfl rfl rfl (Nat.le_of_ble_eq_true rfl) ?_
                            refine t_S_ofGun_4 S2 V9 (i := i_30) (by omega) ?_
                            show zW zro 165 512 [some (.ref 6), some (.int (Int32.ofInt n)), some (.int (Int32.ofInt w)), some (.ref P_2), some (.int (Int32.ofInt a_19)), some (.int (Int32.ofInt (a_31 + v136))), some (.int (Int32.ofInt (i_30 : Int))), w32, w33] [.int (Int32.ofInt (s8 (26 + i_30) 4))] (zN L X2 (zhi s8) R2 G2 (nc + 1) (ns + 2)) Q
                            refine zW.run 1 (pc' := 514) (ls' := [some (.ref 6), some (.int (Int32.ofInt n)), some (.int (Int32.ofInt w)), some (.ref P_2), some (.int (Int32.ofInt a_19)), some (.int (Int32.ofInt (a_31 + v136))), some (.int (Int32.ofInt (i_30 : Int))), w32, w33]) (st' := [.int (Int32.ofInt 9), .int (Int32.ofInt (s8 (26 + i_30) 4))]) (σ' := (zN L X2 (zhi s8) R2 G2 (nc + 1) (ns + 2))) (fun n => rfl) ?_
                            refine zW.jcmp_gt rfl (by omega) (fun c156 => ?_) (fun c156 => ?_)
                            · skip
                              refine zW.run 1 (pc' := 570) (ls' := [some (.ref 6), some (.int (Int32.ofInt n)), some (.int (Int32.ofInt w)), some (.ref P_2), some (.int (Int32.ofInt a_19)), some (.int (Int32.ofInt (a_31 + v136))), some (.int (Int32.ofInt (i_30 : Int))), w32, w33]) (st' := [.int (Int32.ofInt 0)]) (σ' := (zN L X2 (zhi s8) R2 G2 (nc + 1) (ns + 2))) (fun n => rfl) ?_
                              exfalso
                              omega
                            · skip
                              refine zW.run 3 (pc' := 522) (ls' := [some (.ref 6), some (.int (Int32.ofInt n)), some (.int (Int32.ofInt w)), some (.ref P_2), some (.int (Int32.ofInt a_19)), some (.int (Int32.ofInt (a_31 + v136))), some (.int (Int32.ofInt (i_30 : Int))), w32, w33]) (st' := [.int (Int32.ofInt 7), .int (Int32.ofInt (i_30 : Int)), .ref 6]) (σ' := (zN L X2 (zhi s8) R2 G2 (nc + 1) (ns + 2))) (fun n => rfl) ?_
                              refine zW.callV rfl (by decide) rfl rfl rfl rfl rfl (Nat.le_of_ble_eq_true rfl) ?_
                              refine t_S_ofGun_7 S2 V9 (i := i_30) (by omega) (fun v_157 f158 f159 f160 f161 => ?_)
                              show zW zro 165 525 [some (.ref 6), some (.int (Int32.ofInt n)), some (.int (Int32.ofInt w)), some (.ref P_2), some (.int (Int32.ofInt a_19)), some (.int (Int32.ofInt (a_31 + v136))), some (.int (Int32.ofInt (i_30 : Int))), w32, w33] [.int (Int32.ofInt v_157)] (zN L X2 (zhi s8) R2 G2 (nc + 1) (ns + 2)) Q
                              refine zW.run 4 (pc' := 530) (ls' := [some (.ref 6), some (.int (Int32.ofInt n)), some (.int (Int32.ofInt w)), some (.ref P_2), some (.int (Int32.ofInt a_19)), some (.int (Int32.ofInt (a_31 + v136))), some (.int (Int32.ofInt (i_30 : Int))), w32, w33]) (st' := [.int (Int32.ofInt 3), .int (Int32.ofInt (i_30 : Int)), .ref 6, .int (Int32.ofInt 4), .int (Int32.ofInt v_157)]) (σ' := (zN L X2 (zhi s8) R2 G2 (nc + 1) (ns + 2))) (fun n => rfl) ?_
                              refine zW.callV rfl (by decide) rfl rfl rfl rfl rfl (Nat.le_of_ble_eq_true rfl) ?_
                              refine t_S_ofGun_3 S2 V9 (i := i_30) (by omega) ?_
                              show zW zro 165 533 [some (.ref 6), some (.int (Int32.ofInt n)), some (.int (Int32.ofInt w)), some (.ref P_2), some (.int (Int32.ofInt a_19)), some (.int (Int32.ofInt (a_31 + v136))), some (.int (Int32.ofInt (i_30 : Int))), w32, w33] [.int (Int32.ofInt (s8 (26 + i_30) 3)), .int (Int32.ofInt 4), .int (Int32.ofInt v_157)] (zN L X2 (zhi s8) R2 G2 (nc + 1) (ns + 2)) Q
                              refine zW.jsub rfl ?_
                              refine zW.jcmp_gt rfl (by omega) (fun c162 => ?_) (fun c162 => ?_)
                              · skip
                                refine zW.run 1 (pc' := 570) (ls' := [some (.ref 6), some (.int (Int32.ofInt n)), some (.int (Int32.ofInt w)), some (.ref P_2), some (.int (Int32.ofInt a_19)), some (.int (Int32.ofInt (a_31 + v136))), some (.int (Int32.ofInt (i_30 : Int))), w32, w33]) (st' := [.int (Int32.ofInt 0)]) (σ' := (zN L X2 (zhi s8) R2 G2 (nc + 1) (ns + 2))) (fun n => rfl) ?_
                                exfalso
                                omega
                              · skip
                                refine zW.run 3 (pc' := 542) (ls' := [some (.ref 6), some (.int (Int32.ofInt n)), some (.int (Int32.ofInt w)), some (.ref P_2), some (.int (Int32.ofInt a_19)), some (.int (Int32.ofInt (a_31 + v136))), some (.int (Int32.ofInt (i_30 : Int))), w32, w33]) (st' := [.int (Int32.ofInt 7), .int (Int32.ofInt (i_30 : Int)), .ref 6]) (σ' := (zN L X2 (zhi s8) R2 G2 (nc + 1) (ns + 2))) (fun n => rfl) ?_
                                refine zW.callV rfl (by decide) rfl rfl rfl rfl rfl (Nat.le_of_ble_eq_true rfl) ?_
                                refine t_S_ofGun_7 S2 V9 (i := i_30) (by omega) (fun v_163 f164 f165 f166 f167 => ?_)
                                show zW zro 165 545 [some (.ref 6), some (.int (Int32.ofInt n)), some (.int (Int32.ofInt w)), some (.ref P_2), some (.int (Int32.ofInt a_19)), some (.int (Int32.ofInt (a_31 + v136))), some (.int (Int32.ofInt (i_30 : Int))), w32, w33] [.int (Int32.ofInt v_163)] (zN L X2 (zhi s8) R2 G2 (nc + 1) (ns + 2)) Q
                                refine zW.jif_le rfl (by omega) (fun c168 => ?_) (fun c168 => ?_)
                                · skip
                                  refine zW.jinc (ls' := [some (.ref 6), some (.int (Int32.ofInt n)), some (.int (Int32.ofInt w)), some (.ref P_2), some (.int (Int32.ofInt a_19)), some (.int (Int32.ofInt (a_31 + v136))), some (.int (Int32.ofInt ((i_30 : Int) + 1))), w32, w33]) rfl (Nat.le_of_ble_eq_true rfl) rfl rfl ?_
                                  refine zW.run 1 (pc' := 447) (ls' := [some (.ref 6), some (.int (Int32.ofInt n)), some (.int (Int32.ofInt w)), some (.ref P_2), some (.int (Int32.ofInt a_19)), some (.int (Int32.ofInt (a_31 + v136))), some (.int (Int32.ofInt ((i_30 : Int) + 1))), w32, w33]) (st' := []) (σ' := (zN L X2 (zhi s8) R2 G2 (nc + 1) (ns + 2))) (fun n => rfl) ?_
                                  exact ih38 (i_30 + 1) (a_31 + v136) w32 w33 (by omega) (by omega) (by omega) (by omega)
                                · skip
                                  refine zW.run 3 (pc' := 552) (ls' := [some (.ref 6), some (.int (Int32.ofInt n)), some (.int (Int32.ofInt w)), some (.ref P_2), some (.int (Int32.ofInt a_19)), some (.int (Int32.ofInt (a_31 + v136))), some (.int (Int32.ofInt (i_30 : Int))), w32, w33]) (st' := [.int (Int32.ofInt 5), .int (Int32.ofInt (i_30 : Int)), .ref 6]) (σ' := (zN L X2 (zhi s8) R2 G2 (nc + 1) (ns + 2))) (fun n => rfl) ?_
                                  refine zW.callV rfl (by decide) rfl rfl rfl rfl rfl (Nat.le_of_ble_eq_true rfl) ?_
                                  refine t_S_ofGun_5 S2 V9 (i := i_30) (by omega) ?_
                                  show zW zro 165 555 [some (.ref 6), some (.int (Int32.ofInt n)), some (.int (Int32.ofInt w)), some (.ref P_2), some (.int (Int32.ofInt a_19)), some (.int (Int32.ofInt (a_31 + v136))), some (.int (Int32.ofInt (i_30 : Int))), w32, w33] [.int (Int32.ofInt (s8 (26 + i_30) 5))] (zN L X2 (zhi s8) R2 G2 (nc + 1) (ns + 2)) Q
                                  refine zW.jif_gt rfl (by omega) (fun c169 => ?_) (fun c169 => ?_)
                                  · skip
                                    refine zW.run 1 (pc' := 570) (ls' := [some (.ref 6), some (.int (Int32.ofInt n)), some (.int (Int32.ofInt w)), some (.ref P_2), some (.int (Int32.ofInt a_19)), some (.int (Int32.ofInt (a_31 + v136))), some (.int (Int32.ofInt (i_30 : Int))), w32, w33]) (st' := [.int (Int32.ofInt 0)]) (σ' := (zN L X2 (zhi s8) R2 G2 (nc + 1) (ns + 2))) (fun n => rfl) ?_
                                    exfalso
                                    omega
                                  · skip
                                    refine zW.run 3 (pc' := 563) (ls' := [some (.ref 6), some (.int (Int32.ofInt n)), some (.int (Int32.ofInt w)), some (.ref P_2), some (.int (Int32.ofInt a_19)), some (.int (Int32.ofInt (a_31 + v136))), some (.int (Int32.ofInt (i_30 : Int))), w32, w33]) (st' := [.int (Int32.ofInt 6), .int (Int32.ofInt (i_30 : Int)), .ref 6]) (σ' := (zN L X2 (zhi s8) R2 G2 (nc + 1) (ns + 2))) (fun n => rfl) ?_
                                    refine zW.callV rfl (by decide) rfl rfl rfl rfl rfl (Nat.le_of_ble_eq_true rfl) ?_
                                    refine t_S_ofGun_6 S2 V9 (i := i_30) (by omega) ?_
                                    show zW zro 165 566 [some (.ref 6), some (.int (Int32.ofInt n)), some (.int (Int32.ofInt w)), some (.ref P_2), some (.int (Int32.ofInt a_19)), some (.int (Int32.ofInt (a_31 + v136))), some (.int (Int32.ofInt (i_30 : Int))), w32, w33] [.int (Int32.ofInt (s8 (26 + i_30) 6))] (zN L X2 (zhi s8) R2 G2 (nc + 1) (ns + 2)) Q
                                    refine zW.jif_ge rfl (by omega) (fun c170 => ?_) (fun c170 => ?_)
                                    · skip
                                      refine zW.jinc (ls' := [some (.ref 6), some (.int (Int32.ofInt n)), some (.int (Int32.ofInt w)), some (.ref P_2), some (.int (Int32.ofInt a_19)), some (.int (Int32.ofInt (a_31 + v136))), some (.int (Int32.ofInt ((i_30 : Int) + 1))), w32, w33]) rfl (Nat.le_of_ble_eq_true rfl) rfl rfl ?_
                                      refine zW.run 1 (pc' := 447) (ls' := [some (.ref 6), some (.int (Int32.ofInt n)), some (.int (Int32.ofInt w)), some (.ref P_2), some (.int (Int32.ofInt a_19)), some (.int (Int32.ofInt (a_31 + v136))), some (.int (Int32.ofInt ((i_30 : Int) + 1))), w32, w33]) (st' := []) (σ' := (zN L X2 (zhi s8) R2 G2 (nc + 1) (ns + 2))) (fun n => rfl) ?_
                                      exact ih38 (i_30 + 1) (a_31 + v136) w32 w33 (by omega) (by omega) (by omega) (by omega)
                                    · skip
                                      refine zW.run 1 (pc' := 570) (ls' := [some (.ref 6), some (.int (Int32.ofInt n)), some (.int (Int32.ofInt w)), some (.ref P_2), some (.int (Int32.ofInt a_19)), some (.int (Int32.ofInt (a_31 + v136))), some (.int (Int32.ofInt (i_30 : Int))), w32, w33]) (st' := [.int (Int32.ofInt 0)]) (σ' := (zN L X2 (zhi s8) R2 G2 (nc + 1) (ns + 2))) (fun n => rfl) ?_
                                      exfalso
                                      omega
                    refine zW.jif_ne rfl (by omega) (fun c171 => ?_) (fun c171 => ?_)
                    · skip
                      refine zW.run 1 (pc' := 471) (ls' := [some (.ref 6), some (.int (Int32.ofInt n)), some (.int (Int32.ofInt w)), some (.ref P_2), some (.int (Int32.ofInt a_19)), some (.int (Int32.ofInt a_31)), some (.int (Int32.ofInt (i_30 : Int))), w32, w33]) (st' := [.int (Int32.ofInt 0), .int (Int32.ofInt a_31)]) (σ' := (zN L X2 (zhi s8) R2 G2 (nc + 1) (ns + 2))) (fun n => rfl) ?_
                      exact J137 0 (by omega)
                    · skip
                      refine zW.run 2 (pc' := 471) (ls' := [some (.ref 6), some (.int (Int32.ofInt n)), some (.int (Int32.ofInt w)), some (.ref P_2), some (.int (Int32.ofInt a_19)), some (.int (Int32.ofInt a_31)), some (.int (Int32.ofInt (i_30 : Int))), w32, w33]) (st' := [.int (Int32.ofInt 1), .int (Int32.ofInt a_31)]) (σ' := (zN L X2 (zhi s8) R2 G2 (nc + 1) (ns + 2))) (fun n => rfl) ?_
                      exact J137 1 (by omega)
              exact J37 _ 0 0 w21 w22 (by omega) (by omega) (rfl) (Nat.lt_succ_self _)
            · skip
              have c2 := zV_zC2 V9 i_18 (by omega)
              refine zW.run 3 (pc' := 283) (ls' := [some (.ref 6), some (.int (Int32.ofInt n)), some (.int (Int32.ofInt w)), some (.ref P_2), some (.int (Int32.ofInt a_19)), some (.int (Int32.ofInt (i_18 : Int))), w20, w21, w22]) (st' := [.int (Int32.ofInt 2), .int (Int32.ofInt (i_18 : Int)), .ref 6]) (σ' := (zN L X2 (zhi s8) R2 G2 (nc + 1) (ns + 2))) (fun n => rfl) ?_
              refine zW.callV rfl (by decide) rfl rfl rfl rfl rfl (Nat.le_of_ble_eq_true rfl) ?_
              refine t_S_ofCompany_2 S2 V9 (i := i_18) (by omega) ?_
              show zW zro 165 286 [some (.ref 6), some (.int (Int32.ofInt n)), some (.int (Int32.ofInt w)), some (.ref P_2), some (.int (Int32.ofInt a_19)), some (.int (Int32.ofInt (i_18 : Int))), w20, w21, w22] [.int (Int32.ofInt (s8 (42 + i_18) 2))] (zN L X2 (zhi s8) R2 G2 (nc + 1) (ns + 2)) Q
              have f172 := zV_com V9 (i := i_18) (by omega)
              refine zW.run 4 (pc' := 292) (ls' := [some (.ref 6), some (.int (Int32.ofInt n)), some (.int (Int32.ofInt w)), some (.ref P_2), some (.int (Int32.ofInt a_19)), some (.int (Int32.ofInt (i_18 : Int))), some (.int (Int32.ofInt (s8 (42 + i_18) 2))), w21, w22]) (st' := [.int (Int32.ofInt 4), .int (Int32.ofInt (i_18 : Int)), .ref 6]) (σ' := (zN L X2 (zhi s8) R2 G2 (nc + 1) (ns + 2))) (fun n => rfl) ?_
              refine zW.callV rfl (by decide) rfl rfl rfl rfl rfl (Nat.le_of_ble_eq_true rfl) ?_
              refine t_S_ofCompany_4 S2 V9 (i := i_18) (by omega) ?_
              show zW zro 165 295 [some (.ref 6), some (.int (Int32.ofInt n)), some (.int (Int32.ofInt w)), some (.ref P_2), some (.int (Int32.ofInt a_19)), some (.int (Int32.ofInt (i_18 : Int))), some (.int (Int32.ofInt (s8 (42 + i_18) 2))), w21, w22] [.int (Int32.ofInt (s8 (42 + i_18) 4))] (zN L X2 (zhi s8) R2 G2 (nc + 1) (ns + 2)) Q
              refine zW.run 3 (pc' := 301) (ls' := [some (.ref 6), some (.int (Int32.ofInt n)), some (.int (Int32.ofInt w)), some (.ref P_2), some (.int (Int32.ofInt a_19)), some (.int (Int32.ofInt (i_18 : Int))), some (.int (Int32.ofInt (s8 (42 + i_18) 2))), some (.int (Int32.ofInt (s8 (42 + i_18) 4))), w22]) (st' := [.int (Int32.ofInt (s8 (42 + i_18) 2)), .int (Int32.ofInt a_19)]) (σ' := (zN L X2 (zhi s8) R2 G2 (nc + 1) (ns + 2))) (fun n => rfl) ?_
              have J174 : ∀ (v173 : Int), ((s8 (42 + i_18) 2) ≤ 0 ∧ v173 = 0) ∨ ((s8 (42 + i_18) 2) > 0 ∧ v173 = 1) → zW zro 165 309 [some (.ref 6), some (.int (Int32.ofInt n)), some (.int (Int32.ofInt w)), some (.ref P_2), some (.int (Int32.ofInt a_19)), some (.int (Int32.ofInt (i_18 : Int))), some (.int (Int32.ofInt (s8 (42 + i_18) 2))), some (.int (Int32.ofInt (s8 (42 + i_18) 4))), w22] [.int (Int32.ofInt v173), .int (Int32.ofInt a_19)] (zN L X2 (zhi s8) R2 G2 (nc + 1) (ns + 2)) Q := by
                intro v173 c175
                refine zW.jadd rfl ?_
                refine zW.run 2 (pc' := 314) (ls' := [some (.ref 6), some (.int (Int32.ofInt n)), some (.int (Int32.ofInt w)), some (.ref P_2), some (.int (Int32.ofInt (a_19 + v173))), some (.int (Int32.ofInt (i_18 : Int))), some (.int (Int32.ofInt (s8 (42 + i_18) 2))), some (.int (Int32.ofInt (s8 (42 + i_18) 4))), w22]) (st' := [.int (Int32.ofInt (s8 (42 + i_18) 2))]) (σ' := (zN L X2 (zhi s8) R2 G2 (nc + 1) (ns + 2))) (fun n => rfl) ?_
                refine zW.jif_lt rfl (by omega) (fun c176 => ?_) (fun c176 => ?_)
                · skip
                  refine zW.run 1 (pc' := 389) (ls' := [some (.ref 6), some (.int (Int32.ofInt n)), some (.int (Int32.ofInt w)), some (.ref P_2), some (.int (Int32.ofInt (a_19 + v173))), some (.int (Int32.ofInt (i_18 : Int))), some (.int (Int32.ofInt (s8 (42 + i_18) 2))), some (.int (Int32.ofInt (s8 (42 + i_18) 4))), w22]) (st' := [.int (Int32.ofInt 0)]) (σ' := (zN L X2 (zhi s8) R2 G2 (nc + 1) (ns + 2))) (fun n => rfl) ?_
                  exfalso
                  omega
                · skip
                  refine zW.run 2 (pc' := 322) (ls' := [some (.ref 6), some (.int (Int32.ofInt n)), some (.int (Int32.ofInt w)), some (.ref P_2), some (.int (Int32.ofInt (a_19 + v173))), some (.int (Int32.ofInt (i_18 : Int))), some (.int (Int32.ofInt (s8 (42 + i_18) 2))), some (.int (Int32.ofInt (s8 (42 + i_18) 4))), w22]) (st' := [.int (Int32.ofInt 200), .int (Int32.ofInt (s8 (42 + i_18) 2))]) (σ' := (zN L X2 (zhi s8) R2 G2 (nc + 1) (ns + 2))) (fun n => rfl) ?_
                  refine zW.jcmp_gt rfl (by omega) (fun c177 => ?_) (fun c177 => ?_)
                  · skip
                    refine zW.run 1 (pc' := 389) (ls' := [some (.ref 6), some (.int (Int32.ofInt n)), some (.int (Int32.ofInt w)), some (.ref P_2), some (.int (Int32.ofInt (a_19 + v173))), some (.int (Int32.ofInt (i_18 : Int))), some (.int (Int32.ofInt (s8 (42 + i_18) 2))), some (.int (Int32.ofInt (s8 (42 + i_18) 4))), w22]) (st' := [.int (Int32.ofInt 0)]) (σ' := (zN L X2 (zhi s8) R2 G2 (nc + 1) (ns + 2))) (fun n => rfl) ?_
                    exfalso
                    omega
                  · skip
                    refine zW.run 3 (pc' := 329) (ls' := [some (.ref 6), some (.int (Int32.ofInt n)), some (.int (Int32.ofInt w)), some (.ref P_2), some (.int (Int32.ofInt (a_19 + v173))), some (.int (Int32.ofInt (i_18 : Int))), some (.int (Int32.ofInt (s8 (42 + i_18) 2))), some (.int (Int32.ofInt (s8 (42 + i_18) 4))), w22]) (st' := [.int (Int32.ofInt 3), .int (Int32.ofInt (i_18 : Int)), .ref 6]) (σ' := (zN L X2 (zhi s8) R2 G2 (nc + 1) (ns + 2))) (fun n => rfl) ?_
                    refine zW.callV rfl (by decide) rfl rfl rfl rfl rfl (Nat.le_of_ble_eq_true rfl) ?_
                    refine t_S_ofCompany_3 S2 V9 (i := i_18) (by omega) ?_
                    show zW zro 165 332 [some (.ref 6), some (.int (Int32.ofInt n)), some (.int (Int32.ofInt w)), some (.ref P_2), some (.int (Int32.ofInt (a_19 + v173))), some (.int (Int32.ofInt (i_18 : Int))), some (.int (Int32.ofInt (s8 (42 + i_18) 2))), some (.int (Int32.ofInt (s8 (42 + i_18) 4))), w22] [.int (Int32.ofInt (s8 (42 + i_18) 3))] (zN L X2 (zhi s8) R2 G2 (nc + 1) (ns + 2)) Q
                    refine zW.jif_lt rfl (by omega) (fun c178 => ?_) (fun c178 => ?_)
                    · skip
                      refine zW.run 1 (pc' := 389) (ls' := [some (.ref 6), some (.int (Int32.ofInt n)), some (.int (Int32.ofInt w)), some (.ref P_2), some (.int (Int32.ofInt (a_19 + v173))), some (.int (Int32.ofInt (i_18 : Int))), some (.int (Int32.ofInt (s8 (42 + i_18) 2))), some (.int (Int32.ofInt (s8 (42 + i_18) 4))), w22]) (st' := [.int (Int32.ofInt 0)]) (σ' := (zN L X2 (zhi s8) R2 G2 (nc + 1) (ns + 2))) (fun n => rfl) ?_
                      exfalso
                      omega
                    · skip
                      refine zW.run 3 (pc' := 339) (ls' := [some (.ref 6), some (.int (Int32.ofInt n)), some (.int (Int32.ofInt w)), some (.ref P_2), some (.int (Int32.ofInt (a_19 + v173))), some (.int (Int32.ofInt (i_18 : Int))), some (.int (Int32.ofInt (s8 (42 + i_18) 2))), some (.int (Int32.ofInt (s8 (42 + i_18) 4))), w22]) (st' := [.int (Int32.ofInt 3), .int (Int32.ofInt (i_18 : Int)), .ref 6]) (σ' := (zN L X2 (zhi s8) R2 G2 (nc + 1) (ns + 2))) (fun n => rfl) ?_
                      refine zW.callV rfl (by decide) rfl rfl rfl rfl rfl (Nat.le_of_ble_eq_true rfl) ?_
                      refine t_S_ofCompany_3 S2 V9 (i := i_18) (by omega) ?_
                      show zW zro 165 342 [some (.ref 6), some (.int (Int32.ofInt n)), some (.int (Int32.ofInt w)), some (.ref P_2), some (.int (Int32.ofInt (a_19 + v173))), some (.int (Int32.ofInt (i_18 : Int))), some (.int (Int32.ofInt (s8 (42 + i_18) 2))), some (.int (Int32.ofInt (s8 (42 + i_18) 4))), w22] [.int (Int32.ofInt (s8 (42 + i_18) 3))] (zN L X2 (zhi s8) R2 G2 (nc + 1) (ns + 2)) Q
                      refine zW.run 1 (pc' := 344) (ls' := [some (.ref 6), some (.int (Int32.ofInt n)), some (.int (Int32.ofInt w)), some (.ref P_2), some (.int (Int32.ofInt (a_19 + v173))), some (.int (Int32.ofInt (i_18 : Int))), some (.int (Int32.ofInt (s8 (42 + i_18) 2))), some (.int (Int32.ofInt (s8 (42 + i_18) 4))), w22]) (st' := [.int (Int32.ofInt 12), .int (Int32.ofInt (s8 (42 + i_18) 3))]) (σ' := (zN L X2 (zhi s8) R2 G2 (nc + 1) (ns + 2))) (fun n => rfl) ?_
                      refine zW.jcmp_gt rfl (by omega) (fun c179 => ?_) (fun c179 => ?_)
                      · skip
                        refine zW.run 1 (pc' := 389) (ls' := [some (.ref 6), some (.int (Int32.ofInt n)), some (.int (Int32.ofInt w)), some (.ref P_2), some (.int (Int32.ofInt (a_19 + v173))), some (.int (Int32.ofInt (i_18 : Int))), some (.int (Int32.ofInt (s8 (42 + i_18) 2))), some (.int (Int32.ofInt (s8 (42 + i_18) 4))), w22]) (st' := [.int (Int32.ofInt 0)]) (σ' := (zN L X2 (zhi s8) R2 G2 (nc + 1) (ns + 2))) (fun n => rfl) ?_
                        exfalso
                        omega
                      · skip
                        refine zW.run 1 (pc' := 349) (ls' := [some (.ref 6), some (.int (Int32.ofInt n)), some (.int (Int32.ofInt w)), some (.ref P_2), some (.int (Int32.ofInt (a_19 + v173))), some (.int (Int32.ofInt (i_18 : Int))), some (.int (Int32.ofInt (s8 (42 + i_18) 2))), some (.int (Int32.ofInt (s8 (42 + i_18) 4))), w22]) (st' := [.int (Int32.ofInt (s8 (42 + i_18) 4))]) (σ' := (zN L X2 (zhi s8) R2 G2 (nc + 1) (ns + 2))) (fun n => rfl) ?_
                        have J181 : ∀ (v180 : Int), ((s8 (42 + i_18) 4) = 0 ∧ v180 = 1) ∨ (¬ (s8 (42 + i_18) 4) = 0 ∧ (s8 (42 + i_18) 4) = 2 ∧ v180 = 1) ∨ (¬ (s8 (42 + i_18) 4) = 0 ∧ ¬ (s8 (42 + i_18) 4) = 2 ∧ ¬ (s8 (42 + i_18) 4) = 3 ∧ v180 = 0) ∨ (¬ (s8 (42 + i_18) 4) = 0 ∧ ¬ (s8 (42 + i_18) 4) = 2 ∧ (s8 (42 + i_18) 4) = 3 ∧ v180 = 1) → zW zro 165 369 [some (.ref 6), some (.int (Int32.ofInt n)), some (.int (Int32.ofInt w)), some (.ref P_2), some (.int (Int32.ofInt (a_19 + v173))), some (.int (Int32.ofInt (i_18 : Int))), some (.int (Int32.ofInt (s8 (42 + i_18) 2))), some (.int (Int32.ofInt (s8 (42 + i_18) 4))), w22] [.int (Int32.ofInt v180)] (zN L X2 (zhi s8) R2 G2 (nc + 1) (ns + 2)) Q := by
                          intro v180 c182
                          refine zW.run 3 (pc' := 373) (ls' := [some (.ref 6), some (.int (Int32.ofInt n)), some (.int (Int32.ofInt w)), some (.ref P_2), some (.int (Int32.ofInt (a_19 + v173))), some (.int (Int32.ofInt (i_18 : Int))), some (.int (Int32.ofInt (s8 (42 + i_18) 2))), some (.int (Int32.ofInt (s8 (42 + i_18) 4))), w22]) (st' := [.int (Int32.ofInt 5), .int (Int32.ofInt (i_18 : Int)), .ref 6, .int (Int32.ofInt v180)]) (σ' := (zN L X2 (zhi s8) R2 G2 (nc + 1) (ns + 2))) (fun n => rfl) ?_
                          refine zW.callV rfl (by decide) rfl rfl rfl rfl rfl (Nat.le_of_ble_eq_true rfl) ?_
                          refine t_S_ofCompany_5 S2 V9 (i := i_18) (by omega) ?_
                          show zW zro 165 376 [some (.ref 6), some (.int (Int32.ofInt n)), some (.int (Int32.ofInt w)), some (.ref P_2), some (.int (Int32.ofInt (a_19 + v173))), some (.int (Int32.ofInt (i_18 : Int))), some (.int (Int32.ofInt (s8 (42 + i_18) 2))), some (.int (Int32.ofInt (s8 (42 + i_18) 4))), w22] [.int (Int32.ofInt (s8 (42 + i_18) 5)), .int (Int32.ofInt v180)] (zN L X2 (zhi s8) R2 G2 (nc + 1) (ns + 2)) Q
                          refine zW.run 1 (pc' := 377) (ls' := [some (.ref 6), some (.int (Int32.ofInt n)), some (.int (Int32.ofInt w)), some (.ref P_2), some (.int (Int32.ofInt (a_19 + v173))), some (.int (Int32.ofInt (i_18 : Int))), some (.int (Int32.ofInt (s8 (42 + i_18) 2))), some (.int (Int32.ofInt (s8 (42 + i_18) 4))), w22]) (st' := [.int (Int32.ofInt (-1)), .int (Int32.ofInt (s8 (42 + i_18) 5)), .int (Int32.ofInt v180)]) (σ' := (zN L X2 (zhi s8) R2 G2 (nc + 1) (ns + 2))) (fun n => rfl) ?_
                          have J184 : ∀ (v183 : Int), (¬ (s8 (42 + i_18) 5) = (-1) ∧ v183 = 0) ∨ ((s8 (42 + i_18) 5) = (-1) ∧ v183 = 1) → zW zro 165 385 [some (.ref 6), some (.int (Int32.ofInt n)), some (.int (Int32.ofInt w)), some (.ref P_2), some (.int (Int32.ofInt (a_19 + v173))), some (.int (Int32.ofInt (i_18 : Int))), some (.int (Int32.ofInt (s8 (42 + i_18) 2))), some (.int (Int32.ofInt (s8 (42 + i_18) 4))), w22] [.int (Int32.ofInt v183), .int (Int32.ofInt v180)] (zN L X2 (zhi s8) R2 G2 (nc + 1) (ns + 2)) Q := by
                            intro v183 c185
                            refine zW.jcmp_eq rfl (by omega) (fun c186 => ?_) (fun c186 => ?_)
                            · skip
                              refine zW.run 3 (pc' := 395) (ls' := [some (.ref 6), some (.int (Int32.ofInt n)), some (.int (Int32.ofInt w)), some (.ref P_2), some (.int (Int32.ofInt (a_19 + v173))), some (.int (Int32.ofInt (i_18 : Int))), some (.int (Int32.ofInt (s8 (42 + i_18) 2))), some (.int (Int32.ofInt (s8 (42 + i_18) 4))), w22]) (st' := [.int (Int32.ofInt 6), .int (Int32.ofInt (i_18 : Int)), .ref 6]) (σ' := (zN L X2 (zhi s8) R2 G2 (nc + 1) (ns + 2))) (fun n => rfl) ?_
                              refine zW.callV rfl (by decide) rfl rfl rfl rfl rfl (Nat.le_of_ble_eq_true rfl) ?_
                              refine t_S_ofCompany_6 S2 V9 (i := i_18) (by omega) (fun o_187 w_188 v_189 f190 f191 f192 f193 => ?_)
                              show zW zro 165 398 [some (.ref 6), some (.int (Int32.ofInt n)), some (.int (Int32.ofInt w)), some (.ref P_2), some (.int (Int32.ofInt (a_19 + v173))), some (.int (Int32.ofInt (i_18 : Int))), some (.int (Int32.ofInt (s8 (42 + i_18) 2))), some (.int (Int32.ofInt (s8 (42 + i_18) 4))), w22] [.int (Int32.ofInt v_189)] (zN L X2 (zhi s8) R2 G2 (nc + 1) (ns + 2)) Q
                              refine zW.run 5 (pc' := 406) (ls' := [some (.ref 6), some (.int (Int32.ofInt n)), some (.int (Int32.ofInt w)), some (.ref P_2), some (.int (Int32.ofInt (a_19 + v173))), some (.int (Int32.ofInt (i_18 : Int))), some (.int (Int32.ofInt (s8 (42 + i_18) 2))), some (.int (Int32.ofInt (s8 (42 + i_18) 4))), w22]) (st' := [.int (Int32.ofInt 3), .int (Int32.ofInt (i_18 : Int)), .ref 6, .int (Int32.ofInt 14), .int (Int32.ofInt (s8 (42 + i_18) 2)), .int (Int32.ofInt v_189)]) (σ' := (zN L X2 (zhi s8) R2 G2 (nc + 1) (ns + 2))) (fun n => rfl) ?_
                              refine zW.callV rfl (by decide) rfl rfl rfl rfl rfl (Nat.le_of_ble_eq_true rfl) ?_
                              refine t_S_ofCompany_3 S2 V9 (i := i_18) (by omega) ?_
                              show zW zro 165 409 [some (.ref 6), some (.int (Int32.ofInt n)), some (.int (Int32.ofInt w)), some (.ref P_2), some (.int (Int32.ofInt (a_19 + v173))), some (.int (Int32.ofInt (i_18 : Int))), some (.int (Int32.ofInt (s8 (42 + i_18) 2))), some (.int (Int32.ofInt (s8 (42 + i_18) 4))), w22] [.int (Int32.ofInt (s8 (42 + i_18) 3)), .int (Int32.ofInt 14), .int (Int32.ofInt (s8 (42 + i_18) 2)), .int (Int32.ofInt v_189)] (zN L X2 (zhi s8) R2 G2 (nc + 1) (ns + 2)) Q
                              refine zW.jsub rfl ?_
                              refine zW.jmul rfl ?_
                              refine zW.run 4 (pc' := 416) (ls' := [some (.ref 6), some (.int (Int32.ofInt n)), some (.int (Int32.ofInt w)), some (.ref P_2), some (.int (Int32.ofInt (a_19 + v173))), some (.int (Int32.ofInt (i_18 : Int))), some (.int (Int32.ofInt (s8 (42 + i_18) 2))), some (.int (Int32.ofInt (s8 (42 + i_18) 4))), w22]) (st' := [.int (Int32.ofInt 0), .int (Int32.ofInt (i_18 : Int)), .ref 6, .ref 6, .int (Int32.ofInt ((s8 (42 + i_18) 2) * (14 - (s8 (42 + i_18) 3)))), .int (Int32.ofInt v_189)]) (σ' := (zN L X2 (zhi s8) R2 G2 (nc + 1) (ns + 2))) (fun n => rfl) ?_
                              refine zW.callV rfl (by decide) rfl rfl rfl rfl rfl (Nat.le_of_ble_eq_true rfl) ?_
                              refine t_S_ofCompany_0 S2 V9 (i := i_18) (by omega) ?_
                              show zW zro 165 419 [some (.ref 6), some (.int (Int32.ofInt n)), some (.int (Int32.ofInt w)), some (.ref P_2), some (.int (Int32.ofInt (a_19 + v173))), some (.int (Int32.ofInt (i_18 : Int))), some (.int (Int32.ofInt (s8 (42 + i_18) 2))), some (.int (Int32.ofInt (s8 (42 + i_18) 4))), w22] [.int (Int32.ofInt (s8 (42 + i_18) 0)), .ref 6, .int (Int32.ofInt ((s8 (42 + i_18) 2) * (14 - (s8 (42 + i_18) 3)))), .int (Int32.ofInt v_189)] (zN L X2 (zhi s8) R2 G2 (nc + 1) (ns + 2)) Q
                              refine zW.run 1 (pc' := 420) (ls' := [some (.ref 6), some (.int (Int32.ofInt n)), some (.int (Int32.ofInt w)), some (.ref P_2), some (.int (Int32.ofInt (a_19 + v173))), some (.int (Int32.ofInt (i_18 : Int))), some (.int (Int32.ofInt (s8 (42 + i_18) 2))), some (.int (Int32.ofInt (s8 (42 + i_18) 4))), w22]) (st' := [.int (Int32.ofInt 3), .int (Int32.ofInt (s8 (42 + i_18) 0)), .ref 6, .int (Int32.ofInt ((s8 (42 + i_18) 2) * (14 - (s8 (42 + i_18) 3)))), .int (Int32.ofInt v_189)]) (σ' := (zN L X2 (zhi s8) R2 G2 (nc + 1) (ns + 2))) (fun n => rfl) ?_
                              refine zW.callV rfl (by decide) rfl rfl rfl rfl rfl (Nat.le_of_ble_eq_true rfl) ?_
                              refine t_S_ofSide_3 S2 V9 (x := (s8 (42 + i_18) 0)) (by omega) (fun o_194 v_195 f196 f197 f198 => ?_)
                              show zW zro 165 423 [some (.ref 6), some (.int (Int32.ofInt n)), some (.int (Int32.ofInt w)), some (.ref P_2), some (.int (Int32.ofInt (a_19 + v173))), some (.int (Int32.ofInt (i_18 : Int))), some (.int (Int32.ofInt (s8 (42 + i_18) 2))), some (.int (Int32.ofInt (s8 (42 + i_18) 4))), w22] [.int (Int32.ofInt v_195), .int (Int32.ofInt ((s8 (42 + i_18) 2) * (14 - (s8 (42 + i_18) 3)))), .int (Int32.ofInt v_189)] (zN L X2 (zhi s8) R2 G2 (nc + 1) (ns + 2)) Q
                              have eo : o_194 = o_187 := (by omega)
                              have ev : v_195 = s8 o_187 3 := (by rw [← eo]; assumption)
                              rw [ev]
                              refine zW.run 1 (pc' := 425) (ls' := [some (.ref 6), some (.int (Int32.ofInt n)), some (.int (Int32.ofInt w)), some (.ref P_2), some (.int (Int32.ofInt (a_19 + v173))), some (.int (Int32.ofInt (i_18 : Int))), some (.int (Int32.ofInt (s8 (42 + i_18) 2))), some (.int (Int32.ofInt (s8 (42 + i_18) 4))), w22]) (st' := [.int (Int32.ofInt 50), .int (Int32.ofInt (s8 o_187 3)), .int (Int32.ofInt ((s8 (42 + i_18) 2) * (14 - (s8 (42 + i_18) 3)))), .int (Int32.ofInt v_189)]) (σ' := (zN L X2 (zhi s8) R2 G2 (nc + 1) (ns + 2))) (fun n => rfl) ?_
                              refine zW.jadd rfl ?_
                              refine zW.jmul rfl ?_
                              refine zW.run 1 (pc' := 429) (ls' := [some (.ref 6), some (.int (Int32.ofInt n)), some (.int (Int32.ofInt w)), some (.ref P_2), some (.int (Int32.ofInt (a_19 + v173))), some (.int (Int32.ofInt (i_18 : Int))), some (.int (Int32.ofInt (s8 (42 + i_18) 2))), some (.int (Int32.ofInt (s8 (42 + i_18) 4))), w22]) (st' := [.int (Int32.ofInt 100), .int (Int32.ofInt (((s8 (42 + i_18) 2) * (14 - (s8 (42 + i_18) 3))) * ((s8 o_187 3) + 50))), .int (Int32.ofInt v_189)]) (σ' := (zN L X2 (zhi s8) R2 G2 (nc + 1) (ns + 2))) (fun n => rfl) ?_
                              refine zW.jdiv rfl (by omega) ?_
                              refine zW.jsame_eq rfl (by omega) ?_
                              refine zW.jinc (ls' := [some (.ref 6), some (.int (Int32.ofInt n)), some (.int (Int32.ofInt w)), some (.ref P_2), some (.int (Int32.ofInt (a_19 + v173))), some (.int (Int32.ofInt ((i_18 : Int) + 1))), some (.int (Int32.ofInt (s8 (42 + i_18) 2))), some (.int (Int32.ofInt (s8 (42 + i_18) 4))), w22]) rfl (Nat.le_of_ble_eq_true rfl) rfl rfl ?_
                              refine zW.run 1 (pc' := 272) (ls' := [some (.ref 6), some (.int (Int32.ofInt n)), some (.int (Int32.ofInt w)), some (.ref P_2), some (.int (Int32.ofInt (a_19 + v173))), some (.int (Int32.ofInt ((i_18 : Int) + 1))), some (.int (Int32.ofInt (s8 (42 + i_18) 2))), some (.int (Int32.ofInt (s8 (42 + i_18) 4))), w22]) (st' := []) (σ' := (zN L X2 (zhi s8) R2 G2 (nc + 1) (ns + 2))) (fun n => rfl) ?_
                              exact ih27 (i_18 + 1) (a_19 + v173) (some (.int (Int32.ofInt (s8 (42 + i_18) 2)))) (some (.int (Int32.ofInt (s8 (42 + i_18) 4)))) w22 (by omega) (by omega) (by omega) (by omega)
                            · skip
                              refine zW.run 1 (pc' := 389) (ls' := [some (.ref 6), some (.int (Int32.ofInt n)), some (.int (Int32.ofInt w)), some (.ref P_2), some (.int (Int32.ofInt (a_19 + v173))), some (.int (Int32.ofInt (i_18 : Int))), some (.int (Int32.ofInt (s8 (42 + i_18) 2))), some (.int (Int32.ofInt (s8 (42 + i_18) 4))), w22]) (st' := [.int (Int32.ofInt 0)]) (σ' := (zN L X2 (zhi s8) R2 G2 (nc + 1) (ns + 2))) (fun n => rfl) ?_
                              exfalso
                              omega
                          refine zW.jcmp_ne rfl (by omega) (fun c199 => ?_) (fun c199 => ?_)
                          · skip
                            refine zW.run 1 (pc' := 385) (ls' := [some (.ref 6), some (.int (Int32.ofInt n)), some (.int (Int32.ofInt w)), some (.ref P_2), some (.int (Int32.ofInt (a_19 + v173))), some (.int (Int32.ofInt (i_18 : Int))), some (.int (Int32.ofInt (s8 (42 + i_18) 2))), some (.int (Int32.ofInt (s8 (42 + i_18) 4))), w22]) (st' := [.int (Int32.ofInt 0), .int (Int32.ofInt v180)]) (σ' := (zN L X2 (zhi s8) R2 G2 (nc + 1) (ns + 2))) (fun n => rfl) ?_
                            exact J184 0 (by omega)
                          · skip
                            refine zW.run 2 (pc' := 385) (ls' := [some (.ref 6), some (.int (Int32.ofInt n)), some (.int (Int32.ofInt w)), some (.ref P_2), some (.int (Int32.ofInt (a_19 + v173))), some (.int (Int32.ofInt (i_18 : Int))), some (.int (Int32.ofInt (s8 (42 + i_18) 2))), some (.int (Int32.ofInt (s8 (42 + i_18) 4))), w22]) (st' := [.int (Int32.ofInt 1), .int (Int32.ofInt v180)]) (σ' := (zN L X2 (zhi s8) R2 G2 (nc + 1) (ns + 2))) (fun n => rfl) ?_
                            exact J184 1 (by omega)
                        refine zW.jif_eq rfl (by omega) (fun c200 => ?_) (fun c200 => ?_)
                        · skip
                          refine zW.run 2 (pc' := 369) (ls' := [some (.ref 6), some (.int (Int32.ofInt n)), some (.int (Int32.ofInt w)), some (.ref P_2), some (.int (Int32.ofInt (a_19 + v173))), some (.int (Int32.ofInt (i_18 : Int))), some (.int (Int32.ofInt (s8 (42 + i_18) 2))), some (.int (Int32.ofInt (s8 (42 + i_18) 4))), w22]) (st' := [.int (Int32.ofInt 1)]) (σ' := (zN L X2 (zhi s8) R2 G2 (nc + 1) (ns + 2))) (fun n => rfl) ?_
                          exact J181 1 (by omega)
                        · skip
                          refine zW.run 2 (pc' := 355) (ls' := [some (.ref 6), some (.int (Int32.ofInt n)), some (.int (Int32.ofInt w)), some (.ref P_2), some (.int (Int32.ofInt (a_19 + v173))), some (.int (Int32.ofInt (i_18 : Int))), some (.int (Int32.ofInt (s8 (42 + i_18) 2))), some (.int (Int32.ofInt (s8 (42 + i_18) 4))), w22]) (st' := [.int (Int32.ofInt 2), .int (Int32.ofInt (s8 (42 + i_18) 4))]) (σ' := (zN L X2 (zhi s8) R2 G2 (nc + 1) (ns + 2))) (fun n => rfl) ?_
                          refine zW.jcmp_eq rfl (by omega) (fun c201 => ?_) (fun c201 => ?_)
                          · skip
                            refine zW.run 2 (pc' := 369) (ls' := [some (.ref 6), some (.int (Int32.ofInt n)), some (.int (Int32.ofInt w)), some (.ref P_2), some (.int (Int32.ofInt (a_19 + v173))), some (.int (Int32.ofInt (i_18 : Int))), some (.int (Int32.ofInt (s8 (42 + i_18) 2))), some (.int (Int32.ofInt (s8 (42 + i_18) 4))), w22]) (st' := [.int (Int32.ofInt 1)]) (σ' := (zN L X2 (zhi s8) R2 G2 (nc + 1) (ns + 2))) (fun n => rfl) ?_
                            exact J181 1 (by omega)
                          · skip
                            refine zW.run 2 (pc' := 361) (ls' := [some (.ref 6), some (.int (Int32.ofInt n)), some (.int (Int32.ofInt w)), some (.ref P_2), some (.int (Int32.ofInt (a_19 + v173))), some (.int (Int32.ofInt (i_18 : Int))), some (.int (Int32.ofInt (s8 (42 + i_18) 2))), some (.int (Int32.ofInt (s8 (42 + i_18) 4))), w22]) (st' := [.int (Int32.ofInt 3), .int (Int32.ofInt (s8 (42 + i_18) 4))]) (σ' := (zN L X2 (zhi s8) R2 G2 (nc + 1) (ns + 2))) (fun n => rfl) ?_
                            refine zW.jcmp_ne rfl (by omega) (fun c202 => ?_) (fun c202 => ?_)
                            · skip
                              refine zW.run 1 (pc' := 369) (ls' := [some (.ref 6), some (.int (Int32.ofInt n)), some (.int (Int32.ofInt w)), some (.ref P_2), some (.int (Int32.ofInt (a_19 + v173))), some (.int (Int32.ofInt (i_18 : Int))), some (.int (Int32.ofInt (s8 (42 + i_18) 2))), some (.int (Int32.ofInt (s8 (42 + i_18) 4))), w22]) (st' := [.int (Int32.ofInt 0)]) (σ' := (zN L X2 (zhi s8) R2 G2 (nc + 1) (ns + 2))) (fun n => rfl) ?_
                              exact J181 0 (by omega)
                            · skip
                              refine zW.run 2 (pc' := 369) (ls' := [some (.ref 6), some (.int (Int32.ofInt n)), some (.int (Int32.ofInt w)), some (.ref P_2), some (.int (Int32.ofInt (a_19 + v173))), some (.int (Int32.ofInt (i_18 : Int))), some (.int (Int32.ofInt (s8 (42 + i_18) 2))), some (.int (Int32.ofInt (s8 (42 + i_18) 4))), w22]) (st' := [.int (Int32.ofInt 1)]) (σ' := (zN L X2 (zhi s8) R2 G2 (nc + 1) (ns + 2))) (fun n => rfl) ?_
                              exact J181 1 (by omega)
              refine zW.jif_le rfl (by omega) (fun c203 => ?_) (fun c203 => ?_)
              · skip
                refine zW.run 1 (pc' := 309) (ls' := [some (.ref 6), some (.int (Int32.ofInt n)), some (.int (Int32.ofInt w)), some (.ref P_2), some (.int (Int32.ofInt a_19)), some (.int (Int32.ofInt (i_18 : Int))), some (.int (Int32.ofInt (s8 (42 + i_18) 2))), some (.int (Int32.ofInt (s8 (42 + i_18) 4))), w22]) (st' := [.int (Int32.ofInt 0), .int (Int32.ofInt a_19)]) (σ' := (zN L X2 (zhi s8) R2 G2 (nc + 1) (ns + 2))) (fun n => rfl) ?_
                exact J174 0 (by omega)
              · skip
                refine zW.run 2 (pc' := 309) (ls' := [some (.ref 6), some (.int (Int32.ofInt n)), some (.int (Int32.ofInt w)), some (.ref P_2), some (.int (Int32.ofInt a_19)), some (.int (Int32.ofInt (i_18 : Int))), some (.int (Int32.ofInt (s8 (42 + i_18) 2))), some (.int (Int32.ofInt (s8 (42 + i_18) 4))), w22]) (st' := [.int (Int32.ofInt 1), .int (Int32.ofInt a_19)]) (σ' := (zN L X2 (zhi s8) R2 G2 (nc + 1) (ns + 2))) (fun n => rfl) ?_
                exact J174 1 (by omega)
        exact J26 _ 0 0 w5 w6 w7 (by omega) (by omega) (rfl) (Nat.lt_succ_self _)
      · skip
        refine zW.run 3 (pc' := 17) (ls' := [some (.ref 6), some (.int (Int32.ofInt n)), some (.int (Int32.ofInt w)), some (.ref P_2), some (.int (Int32.ofInt (k_3 : Int))), w4, w5, w6, w7]) (st' := [.int (Int32.ofInt 2), .int (Int32.ofInt (k_3 : Int)), .ref 6]) (σ' := (zN L X2 (zhi s8) R2 G2 (nc + 1) (ns + 2))) (fun n => rfl) ?_
        refine zW.callV rfl (by decide) rfl rfl rfl rfl rfl (Nat.le_of_ble_eq_true rfl) ?_
        refine t_S_ofSquare_2 S2 V9 (x := (k_3 : Int)) (by omega) ?_
        show zW zro 165 20 [some (.ref 6), some (.int (Int32.ofInt n)), some (.int (Int32.ofInt w)), some (.ref P_2), some (.int (Int32.ofInt (k_3 : Int))), w4, w5, w6, w7] [.int (Int32.ofInt (s8 11 k_3))] (zN L X2 (zhi s8) R2 G2 (nc + 1) (ns + 2)) Q
        have f204 := zV_sq V9 (k := k_3) (by omega)
        refine zW.run 4 (pc' := 27) (ls' := [some (.ref 6), some (.int (Int32.ofInt n)), some (.int (Int32.ofInt w)), some (.ref P_2), some (.int (Int32.ofInt (k_3 : Int))), some (.int (Int32.ofInt (s8 11 k_3))), w5, w6, w7]) (st' := [.int (Int32.ofInt 7), .int (Int32.ofInt (k_3 : Int)), .ref 6]) (σ' := (zN L X2 (zhi s8) R2 G2 (nc + 1) (ns + 2))) (fun n => rfl) ?_
        refine zW.callV rfl (by decide) rfl rfl rfl rfl rfl (Nat.le_of_ble_eq_true rfl) ?_
        refine t_S_ofSquare_7 S2 V9 (x := (k_3 : Int)) (by omega) (fun v_205 f206 => ?_)
        show zW zro 165 30 [some (.ref 6), some (.int (Int32.ofInt n)), some (.int (Int32.ofInt w)), some (.ref P_2), some (.int (Int32.ofInt (k_3 : Int))), some (.int (Int32.ofInt (s8 11 k_3))), w5, w6, w7] [.int (Int32.ofInt v_205)] (zN L X2 (zhi s8) R2 G2 (nc + 1) (ns + 2)) Q
        simp only [Int.toNat_natCast] at f206
        have hE := (zV_zE V9).1 k_3 (by omega)
        have hE0 : k_3 = 0 → s8 11 k_3 = 0 := fun h9 => by rw [h9]; exact (zV_zE V9).2.1
        have hE3 : (k_3 : Int) = g 3 → s8 11 k_3 = 3 := fun h9 => by rw [show k_3 = (g 3).toNat by omega]; exact (zV_zE V9).2.2
        refine zW.run 1 (pc' := 32) (ls' := [some (.ref 6), some (.int (Int32.ofInt n)), some (.int (Int32.ofInt w)), some (.ref P_2), some (.int (Int32.ofInt (k_3 : Int))), some (.int (Int32.ofInt (s8 11 k_3))), some (.int (Int32.ofInt v_205)), w6, w7]) (st' := []) (σ' := (zN L X2 (zhi s8) R2 G2 (nc + 1) (ns + 2))) (fun n => rfl) ?_
        have J209 : ∀ (w207 : Option Value) (w208 : Option Value), zW zro 165 185 [some (.ref 6), some (.int (Int32.ofInt n)), some (.int (Int32.ofInt w)), some (.ref P_2), some (.int (Int32.ofInt (k_3 : Int))), some (.int (Int32.ofInt (s8 11 k_3))), some (.int (Int32.ofInt v_205)), w207, w208] [] (zN L X2 (zhi s8) R2 G2 (nc + 1) (ns + 2)) Q := by
          intro w207 w208
          have J214 : ∀ (w210 : Option Value) (w211 : Option Value) (w212 : Option Value) (w213 : Option Value), zW zro 165 219 [some (.ref 6), some (.int (Int32.ofInt n)), some (.int (Int32.ofInt w)), some (.ref P_2), some (.int (Int32.ofInt (k_3 : Int))), w210, w211, w212, w213] [] (zN L X2 (zhi s8) R2 G2 (nc + 1) (ns + 2)) Q := by
            intro w210 w211 w212 w213
            refine zW.run 3 (pc' := 224) (ls' := [some (.ref 6), some (.int (Int32.ofInt n)), some (.int (Int32.ofInt w)), some (.ref P_2), some (.int (Int32.ofInt (k_3 : Int))), w210, w211, w212, w213]) (st' := [.int (Int32.ofInt (k_3 : Int)), .int (Int32.ofInt (k_3 : Int)), .ref 6]) (σ' := (zN L X2 (zhi s8) R2 G2 (nc + 1) (ns + 2))) (fun n => rfl) ?_
            refine zW.callV rfl (by decide) rfl rfl rfl rfl rfl (Nat.le_of_ble_eq_true rfl) ?_
            refine t_S_sees S2 V9 (x := (k_3 : Int)) (y := (k_3 : Int)) (by omega) (by omega) ?_ (fun f215 => ?_)
            · skip
              show zW zro 165 227 [some (.ref 6), some (.int (Int32.ofInt n)), some (.int (Int32.ofInt w)), some (.ref P_2), some (.int (Int32.ofInt (k_3 : Int))), w210, w211, w212, w213] [.int (Int32.ofInt 1)] (zN L X2 (zhi s8) R2 G2 (nc + 1) (ns + 2)) Q
              refine zW.run 4 (pc' := 235) (ls' := [some (.ref 6), some (.int (Int32.ofInt n)), some (.int (Int32.ofInt w)), some (.ref P_2), some (.int (Int32.ofInt (k_3 : Int))), w210, w211, w212, w213]) (st' := [.int (Int32.ofInt 0), .ref P_2, .int (Int32.ofInt 0), .ref P_2]) (σ' := (zN L X2 (zhi s8) R2 G2 (nc + 1) (ns + 2))) (fun n => rfl) ?_
              refine zW.jald (n := 2) (v := (s8 P_2 0)) rfl hkP_2 (by decide) (by omega) rfl ?_
              refine zW.run 3 (pc' := 241) (ls' := [some (.ref 6), some (.int (Int32.ofInt n)), some (.int (Int32.ofInt w)), some (.ref P_2), some (.int (Int32.ofInt (k_3 : Int))), w210, w211, w212, w213]) (st' := [.int (Int32.ofInt 8), .int (Int32.ofInt (k_3 : Int)), .ref 6, .int (Int32.ofInt (s8 P_2 0)), .int (Int32.ofInt 0), .ref P_2]) (σ' := (zN L X2 (zhi s8) R2 G2 (nc + 1) (ns + 2))) (fun n => rfl) ?_
              refine zW.callV rfl (by decide) rfl rfl rfl rfl rfl (Nat.le_of_ble_eq_true rfl) ?_
              refine t_S_ofSquare_8 S2 V9 (x := (k_3 : Int)) (by omega) (fun v_216 f217 f218 => ?_)
              show zW zro 165 244 [some (.ref 6), some (.int (Int32.ofInt n)), some (.int (Int32.ofInt w)), some (.ref P_2), some (.int (Int32.ofInt (k_3 : Int))), w210, w211, w212, w213] [.int (Int32.ofInt v_216), .int (Int32.ofInt (s8 P_2 0)), .int (Int32.ofInt 0), .ref P_2] (zN L X2 (zhi s8) R2 G2 (nc + 1) (ns + 2)) Q
              refine zW.jadd rfl ?_
              refine zW.jast (n := 2) rfl hkP_2 (by decide) (by omega) ?_
              have V219 : zV g U F T B ph (zup s8 P_2 0 ((s8 P_2 0) + v_216)) := (V_irr V9 (by omega))
              show zW zro 165 246 [some (.ref 6), some (.int (Int32.ofInt n)), some (.int (Int32.ofInt w)), some (.ref P_2), some (.int (Int32.ofInt (k_3 : Int))), w210, w211, w212, w213] [] (zN L X2 (zhi (zup s8 P_2 0 ((s8 P_2 0) + v_216))) R2 G2 (nc + 1) (ns + 2)) Q
              generalize hs220 : (zup s8 P_2 0 ((s8 P_2 0) + v_216)) = s220 at V219 ⊢
              have ka221 : ∀ p f : Nat, p < 125 → s220 p f = s8 p f := fun p f h9 => by rw [← hs220]; exact zup_nj (by omega)
              have kc222 : s220 P_2 0 = ((s8 P_2 0) + v_216) := by rw [← hs220]; exact zup_ej
              have kc223 : s220 P_2 1 = (s8 P_2 1) := by rw [← hs220]; exact (zup_nj (by omega))
              refine zW.run 3 (pc' := 249) (ls' := [some (.ref 6), some (.int (Int32.ofInt n)), some (.int (Int32.ofInt w)), some (.ref P_2), some (.int (Int32.ofInt (k_3 : Int))), w210, w211, w212, w213]) (st' := [.int (Int32.ofInt 1), .ref P_2, .int (Int32.ofInt 1), .ref P_2]) (σ' := (zN L X2 (zhi s220) R2 G2 (nc + 1) (ns + 2))) (fun n => rfl) ?_
              refine zW.jald (n := 2) (v := (s220 P_2 1)) rfl hkP_2 (by decide) (by omega) rfl ?_
              refine zW.run 3 (pc' := 255) (ls' := [some (.ref 6), some (.int (Int32.ofInt n)), some (.int (Int32.ofInt w)), some (.ref P_2), some (.int (Int32.ofInt (k_3 : Int))), w210, w211, w212, w213]) (st' := [.int (Int32.ofInt 9), .int (Int32.ofInt (k_3 : Int)), .ref 6, .int (Int32.ofInt (s220 P_2 1)), .int (Int32.ofInt 1), .ref P_2]) (σ' := (zN L X2 (zhi s220) R2 G2 (nc + 1) (ns + 2))) (fun n => rfl) ?_
              refine zW.callV rfl (by decide) rfl rfl rfl rfl rfl (Nat.le_of_ble_eq_true rfl) ?_
              refine t_S_ofSquare_9 S2 V219 (x := (k_3 : Int)) (by omega) (fun v_224 f225 f226 => ?_)
              show zW zro 165 258 [some (.ref 6), some (.int (Int32.ofInt n)), some (.int (Int32.ofInt w)), some (.ref P_2), some (.int (Int32.ofInt (k_3 : Int))), w210, w211, w212, w213] [.int (Int32.ofInt v_224), .int (Int32.ofInt (s220 P_2 1)), .int (Int32.ofInt 1), .ref P_2] (zN L X2 (zhi s220) R2 G2 (nc + 1) (ns + 2)) Q
              refine zW.jadd rfl ?_
              refine zW.jast (n := 2) rfl hkP_2 (by decide) (by omega) ?_
              have V227 : zV g U F T B ph (zup s220 P_2 1 ((s220 P_2 1) + v_224)) := (V_irr V219 (by omega))
              show zW zro 165 260 [some (.ref 6), some (.int (Int32.ofInt n)), some (.int (Int32.ofInt w)), some (.ref P_2), some (.int (Int32.ofInt (k_3 : Int))), w210, w211, w212, w213] [] (zN L X2 (zhi (zup s220 P_2 1 ((s220 P_2 1) + v_224))) R2 G2 (nc + 1) (ns + 2)) Q
              generalize hs228 : (zup s220 P_2 1 ((s220 P_2 1) + v_224)) = s228 at V227 ⊢
              have ka229 : ∀ p f : Nat, p < 125 → s228 p f = s220 p f := fun p f h9 => by rw [← hs228]; exact zup_nj (by omega)
              have kc230 : s228 P_2 0 = (s220 P_2 0) := by rw [← hs228]; exact (zup_nj (by omega))
              have kc231 : s228 P_2 1 = ((s220 P_2 1) + v_224) := by rw [← hs228]; exact zup_ej
              have z0 : zml s 0 ((k_3 + 1 : Nat) : Int) 12 = zml s 0 (k_3 : Int) 12 + zma s 0 (k_3 : Int) 12 := zml_s 12
              have z1 : zml s 1 ((k_3 + 1 : Nat) : Int) 12 = zml s 1 (k_3 : Int) 12 + zma s 1 (k_3 : Int) 12 := zml_s 12
              have z2 := zma_eq (fun p f h9 => c11 p f (by omega)) 0 (k_3 : Int)
              have z3 := zma_eq (fun p f h9 => (ka221 p f (by omega)).trans (c11 p f (by omega))) 1 (k_3 : Int)
              refine zW.jinc (ls' := [some (.ref 6), some (.int (Int32.ofInt n)), some (.int (Int32.ofInt w)), some (.ref P_2), some (.int (Int32.ofInt ((k_3 : Int) + 1))), w210, w211, w212, w213]) rfl (Nat.le_of_ble_eq_true rfl) rfl rfl ?_
              refine zW.run 1 (pc' := 7) (ls' := [some (.ref 6), some (.int (Int32.ofInt n)), some (.int (Int32.ofInt w)), some (.ref P_2), some (.int (Int32.ofInt ((k_3 : Int) + 1))), w210, w211, w212, w213]) (st' := []) (σ' := (zN L X2 (zhi s228) R2 G2 (nc + 1) (ns + 2))) (fun n => rfl) ?_
              exact ih15 (k_3 + 1) w210 w211 w212 w213 s228 (zV_mono V227 (by omega) (by omega)) (by omega) (fun p f h9 => (ka229 p f h9).trans ((ka221 p f h9).trans (c11 p f h9))) (by omega) (by omega) (by omega)
            · skip
              show zW zro 165 227 [some (.ref 6), some (.int (Int32.ofInt n)), some (.int (Int32.ofInt w)), some (.ref P_2), some (.int (Int32.ofInt (k_3 : Int))), w210, w211, w212, w213] [.int (Int32.ofInt 0)] (zN L X2 (zhi s8) R2 G2 (nc + 1) (ns + 2)) Q
              refine zW.run 2 (pc' := 231) (ls' := [some (.ref 6), some (.int (Int32.ofInt n)), some (.int (Int32.ofInt w)), some (.ref P_2), some (.int (Int32.ofInt (k_3 : Int))), w210, w211, w212, w213]) (st' := [.int (Int32.ofInt 0)]) (σ' := (zN L X2 (zhi s8) R2 G2 (nc + 1) (ns + 2))) (fun n => rfl) ?_
              exfalso
              omega
          refine zW.run 2 (pc' := 188) (ls' := [some (.ref 6), some (.int (Int32.ofInt n)), some (.int (Int32.ofInt w)), some (.ref P_2), some (.int (Int32.ofInt (k_3 : Int))), some (.int (Int32.ofInt (s8 11 k_3))), some (.int (Int32.ofInt v_205)), w207, w208]) (st' := [.int (Int32.ofInt 1), .int (Int32.ofInt (s8 11 k_3))]) (σ' := (zN L X2 (zhi s8) R2 G2 (nc + 1) (ns + 2))) (fun n => rfl) ?_
          refine zW.jcmp_eq rfl (by omega) (fun c232 => ?_) (fun c232 => ?_)
          · skip
            refine zW.run 2 (pc' := 200) (ls' := [some (.ref 6), some (.int (Int32.ofInt n)), some (.int (Int32.ofInt w)), some (.ref P_2), some (.int (Int32.ofInt (k_3 : Int))), some (.int (Int32.ofInt (s8 11 k_3))), some (.int (Int32.ofInt v_205)), w207, w208]) (st' := [.int (Int32.ofInt 1), .int (Int32.ofInt v_205)]) (σ' := (zN L X2 (zhi s8) R2 G2 (nc + 1) (ns + 2))) (fun n => rfl) ?_
            refine zW.jcmp_ne rfl (by omega) (fun c233 => ?_) (fun c233 => ?_)
            · skip
              refine zW.run 1 (pc' := 231) (ls' := [some (.ref 6), some (.int (Int32.ofInt n)), some (.int (Int32.ofInt w)), some (.ref P_2), some (.int (Int32.ofInt (k_3 : Int))), some (.int (Int32.ofInt (s8 11 k_3))), some (.int (Int32.ofInt v_205)), w207, w208]) (st' := [.int (Int32.ofInt 0)]) (σ' := (zN L X2 (zhi s8) R2 G2 (nc + 1) (ns + 2))) (fun n => rfl) ?_
              exfalso
              omega
            · skip
              refine zW.run 2 (pc' := 206) (ls' := [some (.ref 6), some (.int (Int32.ofInt n)), some (.int (Int32.ofInt w)), some (.ref P_2), some (.int (Int32.ofInt (k_3 : Int))), some (.int (Int32.ofInt (s8 11 k_3))), some (.int (Int32.ofInt v_205)), w207, w208]) (st' := [.int (Int32.ofInt 5), .int (Int32.ofInt (s8 11 k_3))]) (σ' := (zN L X2 (zhi s8) R2 G2 (nc + 1) (ns + 2))) (fun n => rfl) ?_
              refine zW.jcmp_eq rfl (by omega) (fun c234 => ?_) (fun c234 => ?_)
              · skip
                refine zW.run 1 (pc' := 216) (ls' := [some (.ref 6), some (.int (Int32.ofInt n)), some (.int (Int32.ofInt w)), some (.ref P_2), some (.int (Int32.ofInt (k_3 : Int))), some (.int (Int32.ofInt (s8 11 k_3))), some (.int (Int32.ofInt v_205)), w207, w208]) (st' := [.int (Int32.ofInt v_205)]) (σ' := (zN L X2 (zhi s8) R2 G2 (nc + 1) (ns + 2))) (fun n => rfl) ?_
                refine zW.jif_ne rfl (by omega) (fun c235 => ?_) (fun c235 => ?_)
                · skip
                  refine zW.run 1 (pc' := 231) (ls' := [some (.ref 6), some (.int (Int32.ofInt n)), some (.int (Int32.ofInt w)), some (.ref P_2), some (.int (Int32.ofInt (k_3 : Int))), some (.int (Int32.ofInt (s8 11 k_3))), some (.int (Int32.ofInt v_205)), w207, w208]) (st' := [.int (Int32.ofInt 0)]) (σ' := (zN L X2 (zhi s8) R2 G2 (nc + 1) (ns + 2))) (fun n => rfl) ?_
                  exfalso
                  omega
                · skip
                  exact J214 (some (.int (Int32.ofInt (s8 11 k_3)))) (some (.int (Int32.ofInt v_205))) w207 w208
              · skip
                refine zW.run 1 (pc' := 211) (ls' := [some (.ref 6), some (.int (Int32.ofInt n)), some (.int (Int32.ofInt w)), some (.ref P_2), some (.int (Int32.ofInt (k_3 : Int))), some (.int (Int32.ofInt (s8 11 k_3))), some (.int (Int32.ofInt v_205)), w207, w208]) (st' := [.int (Int32.ofInt (k_3 : Int))]) (σ' := (zN L X2 (zhi s8) R2 G2 (nc + 1) (ns + 2))) (fun n => rfl) ?_
                refine zW.jif_ne rfl (by omega) (fun c236 => ?_) (fun c236 => ?_)
                · skip
                  exact J214 (some (.int (Int32.ofInt (s8 11 k_3)))) (some (.int (Int32.ofInt v_205))) w207 w208
                · skip
                  refine zW.run 1 (pc' := 216) (ls' := [some (.ref 6), some (.int (Int32.ofInt n)), some (.int (Int32.ofInt w)), some (.ref P_2), some (.int (Int32.ofInt (k_3 : Int))), some (.int (Int32.ofInt (s8 11 k_3))), some (.int (Int32.ofInt v_205)), w207, w208]) (st' := [.int (Int32.ofInt v_205)]) (σ' := (zN L X2 (zhi s8) R2 G2 (nc + 1) (ns + 2))) (fun n => rfl) ?_
                  refine zW.jif_ne rfl (by omega) (fun c237 => ?_) (fun c237 => ?_)
                  · skip
                    refine zW.run 1 (pc' := 231) (ls' := [some (.ref 6), some (.int (Int32.ofInt n)), some (.int (Int32.ofInt w)), some (.ref P_2), some (.int (Int32.ofInt (k_3 : Int))), some (.int (Int32.ofInt (s8 11 k_3))), some (.int (Int32.ofInt v_205)), w207, w208]) (st' := [.int (Int32.ofInt 0)]) (σ' := (zN L X2 (zhi s8) R2 G2 (nc + 1) (ns + 2))) (fun n => rfl) ?_
                    exfalso
                    omega
                  · skip
                    exact J214 (some (.int (Int32.ofInt (s8 11 k_3)))) (some (.int (Int32.ofInt v_205))) w207 w208
          · skip
            refine zW.run 2 (pc' := 194) (ls' := [some (.ref 6), some (.int (Int32.ofInt n)), some (.int (Int32.ofInt w)), some (.ref P_2), some (.int (Int32.ofInt (k_3 : Int))), some (.int (Int32.ofInt (s8 11 k_3))), some (.int (Int32.ofInt v_205)), w207, w208]) (st' := [.int (Int32.ofInt 3), .int (Int32.ofInt (s8 11 k_3))]) (σ' := (zN L X2 (zhi s8) R2 G2 (nc + 1) (ns + 2))) (fun n => rfl) ?_
            refine zW.jcmp_ne rfl (by omega) (fun c238 => ?_) (fun c238 => ?_)
            · skip
              refine zW.run 2 (pc' := 206) (ls' := [some (.ref 6), some (.int (Int32.ofInt n)), some (.int (Int32.ofInt w)), some (.ref P_2), some (.int (Int32.ofInt (k_3 : Int))), some (.int (Int32.ofInt (s8 11 k_3))), some (.int (Int32.ofInt v_205)), w207, w208]) (st' := [.int (Int32.ofInt 5), .int (Int32.ofInt (s8 11 k_3))]) (σ' := (zN L X2 (zhi s8) R2 G2 (nc + 1) (ns + 2))) (fun n => rfl) ?_
              refine zW.jcmp_eq rfl (by omega) (fun c239 => ?_) (fun c239 => ?_)
              · skip
                refine zW.run 1 (pc' := 216) (ls' := [some (.ref 6), some (.int (Int32.ofInt n)), some (.int (Int32.ofInt w)), some (.ref P_2), some (.int (Int32.ofInt (k_3 : Int))), some (.int (Int32.ofInt (s8 11 k_3))), some (.int (Int32.ofInt v_205)), w207, w208]) (st' := [.int (Int32.ofInt v_205)]) (σ' := (zN L X2 (zhi s8) R2 G2 (nc + 1) (ns + 2))) (fun n => rfl) ?_
                refine zW.jif_ne rfl (by omega) (fun c240 => ?_) (fun c240 => ?_)
                · skip
                  refine zW.run 1 (pc' := 231) (ls' := [some (.ref 6), some (.int (Int32.ofInt n)), some (.int (Int32.ofInt w)), some (.ref P_2), some (.int (Int32.ofInt (k_3 : Int))), some (.int (Int32.ofInt (s8 11 k_3))), some (.int (Int32.ofInt v_205)), w207, w208]) (st' := [.int (Int32.ofInt 0)]) (σ' := (zN L X2 (zhi s8) R2 G2 (nc + 1) (ns + 2))) (fun n => rfl) ?_
                  exfalso
                  omega
                · skip
                  exact J214 (some (.int (Int32.ofInt (s8 11 k_3)))) (some (.int (Int32.ofInt v_205))) w207 w208
              · skip
                refine zW.run 1 (pc' := 211) (ls' := [some (.ref 6), some (.int (Int32.ofInt n)), some (.int (Int32.ofInt w)), some (.ref P_2), some (.int (Int32.ofInt (k_3 : Int))), some (.int (Int32.ofInt (s8 11 k_3))), some (.int (Int32.ofInt v_205)), w207, w208]) (st' := [.int (Int32.ofInt (k_3 : Int))]) (σ' := (zN L X2 (zhi s8) R2 G2 (nc + 1) (ns + 2))) (fun n => rfl) ?_
                refine zW.jif_ne rfl (by omega) (fun c241 => ?_) (fun c241 => ?_)
                · skip
                  exact J214 (some (.int (Int32.ofInt (s8 11 k_3)))) (some (.int (Int32.ofInt v_205))) w207 w208
                · skip
                  refine zW.run 1 (pc' := 216) (ls' := [some (.ref 6), some (.int (Int32.ofInt n)), some (.int (Int32.ofInt w)), some (.ref P_2), some (.int (Int32.ofInt (k_3 : Int))), some (.int (Int32.ofInt (s8 11 k_3))), some (.int (Int32.ofInt v_205)), w207, w208]) (st' := [.int (Int32.ofInt v_205)]) (σ' := (zN L X2 (zhi s8) R2 G2 (nc + 1) (ns + 2))) (fun n => rfl) ?_
                  refine zW.jif_ne rfl (by omega) (fun c242 => ?_) (fun c242 => ?_)
                  · skip
                    refine zW.run 1 (pc' := 231) (ls' := [some (.ref 6), some (.int (Int32.ofInt n)), some (.int (Int32.ofInt w)), some (.ref P_2), some (.int (Int32.ofInt (k_3 : Int))), some (.int (Int32.ofInt (s8 11 k_3))), some (.int (Int32.ofInt v_205)), w207, w208]) (st' := [.int (Int32.ofInt 0)]) (σ' := (zN L X2 (zhi s8) R2 G2 (nc + 1) (ns + 2))) (fun n => rfl) ?_
                    exfalso
                    omega
                  · skip
                    exact J214 (some (.int (Int32.ofInt (s8 11 k_3)))) (some (.int (Int32.ofInt v_205))) w207 w208
            · skip
              refine zW.run 2 (pc' := 200) (ls' := [some (.ref 6), some (.int (Int32.ofInt n)), some (.int (Int32.ofInt w)), some (.ref P_2), some (.int (Int32.ofInt (k_3 : Int))), some (.int (Int32.ofInt (s8 11 k_3))), some (.int (Int32.ofInt v_205)), w207, w208]) (st' := [.int (Int32.ofInt 1), .int (Int32.ofInt v_205)]) (σ' := (zN L X2 (zhi s8) R2 G2 (nc + 1) (ns + 2))) (fun n => rfl) ?_
              refine zW.jcmp_ne rfl (by omega) (fun c243 => ?_) (fun c243 => ?_)
              · skip
                refine zW.run 1 (pc' := 231) (ls' := [some (.ref 6), some (.int (Int32.ofInt n)), some (.int (Int32.ofInt w)), some (.ref P_2), some (.int (Int32.ofInt (k_3 : Int))), some (.int (Int32.ofInt (s8 11 k_3))), some (.int (Int32.ofInt v_205)), w207, w208]) (st' := [.int (Int32.ofInt 0)]) (σ' := (zN L X2 (zhi s8) R2 G2 (nc + 1) (ns + 2))) (fun n => rfl) ?_
                exfalso
                omega
              · skip
                refine zW.run 2 (pc' := 206) (ls' := [some (.ref 6), some (.int (Int32.ofInt n)), some (.int (Int32.ofInt w)), some (.ref P_2), some (.int (Int32.ofInt (k_3 : Int))), some (.int (Int32.ofInt (s8 11 k_3))), some (.int (Int32.ofInt v_205)), w207, w208]) (st' := [.int (Int32.ofInt 5), .int (Int32.ofInt (s8 11 k_3))]) (σ' := (zN L X2 (zhi s8) R2 G2 (nc + 1) (ns + 2))) (fun n => rfl) ?_
                refine zW.jcmp_eq rfl (by omega) (fun c244 => ?_) (fun c244 => ?_)
                · skip
                  refine zW.run 1 (pc' := 216) (ls' := [some (.ref 6), some (.int (Int32.ofInt n)), some (.int (Int32.ofInt w)), some (.ref P_2), some (.int (Int32.ofInt (k_3 : Int))), some (.int (Int32.ofInt (s8 11 k_3))), some (.int (Int32.ofInt v_205)), w207, w208]) (st' := [.int (Int32.ofInt v_205)]) (σ' := (zN L X2 (zhi s8) R2 G2 (nc + 1) (ns + 2))) (fun n => rfl) ?_
                  refine zW.jif_ne rfl (by omega) (fun c245 => ?_) (fun c245 => ?_)
                  · skip
                    refine zW.run 1 (pc' := 231) (ls' := [some (.ref 6), some (.int (Int32.ofInt n)), some (.int (Int32.ofInt w)), some (.ref P_2), some (.int (Int32.ofInt (k_3 : Int))), some (.int (Int32.ofInt (s8 11 k_3))), some (.int (Int32.ofInt v_205)), w207, w208]) (st' := [.int (Int32.ofInt 0)]) (σ' := (zN L X2 (zhi s8) R2 G2 (nc + 1) (ns + 2))) (fun n => rfl) ?_
                    exfalso
                    omega
                  · skip
                    exact J214 (some (.int (Int32.ofInt (s8 11 k_3)))) (some (.int (Int32.ofInt v_205))) w207 w208
                · skip
                  refine zW.run 1 (pc' := 211) (ls' := [some (.ref 6), some (.int (Int32.ofInt n)), some (.int (Int32.ofInt w)), some (.ref P_2), some (.int (Int32.ofInt (k_3 : Int))), some (.int (Int32.ofInt (s8 11 k_3))), some (.int (Int32.ofInt v_205)), w207, w208]) (st' := [.int (Int32.ofInt (k_3 : Int))]) (σ' := (zN L X2 (zhi s8) R2 G2 (nc + 1) (ns + 2))) (fun n => rfl) ?_
                  refine zW.jif_ne rfl (by omega) (fun c246 => ?_) (fun c246 => ?_)
                  · skip
                    exact J214 (some (.int (Int32.ofInt (s8 11 k_3)))) (some (.int (Int32.ofInt v_205))) w207 w208
                  · skip
                    refine zW.run 1 (pc' := 216) (ls' := [some (.ref 6), some (.int (Int32.ofInt n)), some (.int (Int32.ofInt w)), some (.ref P_2), some (.int (Int32.ofInt (k_3 : Int))), some (.int (Int32.ofInt (s8 11 k_3))), some (.int (Int32.ofInt v_205)), w207, w208]) (st' := [.int (Int32.ofInt v_205)]) (σ' := (zN L X2 (zhi s8) R2 G2 (nc + 1) (ns + 2))) (fun n => rfl) ?_
                    refine zW.jif_ne rfl (by omega) (fun c247 => ?_) (fun c247 => ?_)
                    · skip
                      refine zW.run 1 (pc' := 231) (ls' := [some (.ref 6), some (.int (Int32.ofInt n)), some (.int (Int32.ofInt w)), some (.ref P_2), some (.int (Int32.ofInt (k_3 : Int))), some (.int (Int32.ofInt (s8 11 k_3))), some (.int (Int32.ofInt v_205)), w207, w208]) (st' := [.int (Int32.ofInt 0)]) (σ' := (zN L X2 (zhi s8) R2 G2 (nc + 1) (ns + 2))) (fun n => rfl) ?_
                      exfalso
                      omega
                    · skip
                      exact J214 (some (.int (Int32.ofInt (s8 11 k_3)))) (some (.int (Int32.ofInt v_205))) w207 w208
        refine zW.run 4 (pc' := 37) (ls' := [some (.ref 6), some (.int (Int32.ofInt n)), some (.int (Int32.ofInt w)), some (.ref P_2), some (.int (Int32.ofInt (k_3 : Int))), some (.int (Int32.ofInt (s8 11 k_3))), some (.int (Int32.ofInt v_205)), w6, w7]) (st' := [.int (Int32.ofInt 0), .int (Int32.ofInt (k_3 : Int)), .ref 6, .int (Int32.ofInt 2)]) (σ' := (zN L X2 (zhi s8) R2 G2 (nc + 1) (ns + 2))) (fun n => rfl) ?_
        refine zW.callV rfl (by decide) rfl rfl rfl rfl rfl (Nat.le_of_ble_eq_true rfl) ?_
        refine t_S_ofSquare_0 S2 V9 (x := (k_3 : Int)) (by omega) ?_
        show zW zro 165 40 [some (.ref 6), some (.int (Int32.ofInt n)), some (.int (Int32.ofInt w)), some (.ref P_2), some (.int (Int32.ofInt (k_3 : Int))), some (.int (Int32.ofInt (s8 11 k_3))), some (.int (Int32.ofInt v_205)), w6, w7] [.int (Int32.ofInt (s8 9 k_3)), .int (Int32.ofInt 2)] (zN L X2 (zhi s8) R2 G2 (nc + 1) (ns + 2)) Q
        refine zW.jmul rfl ?_
        refine zW.run 2 (pc' := 44) (ls' := [some (.ref 6), some (.int (Int32.ofInt n)), some (.int (Int32.ofInt w)), some (.ref P_2), some (.int (Int32.ofInt (k_3 : Int))), some (.int (Int32.ofInt (s8 11 k_3))), some (.int (Int32.ofInt v_205)), w6, w7]) (st' := [.int (Int32.ofInt 1), .int (Int32.ofInt (s8 11 k_3)), .int (Int32.ofInt (2 * (s8 9 k_3)))]) (σ' := (zN L X2 (zhi s8) R2 G2 (nc + 1) (ns + 2))) (fun n => rfl) ?_
        have J249 : ∀ (v248 : Int), (¬ (s8 11 k_3) = 1 ∧ ¬ (s8 11 k_3) = 3 ∧ (s8 11 k_3) = 6 ∧ v248 = 2) ∨ (¬ (s8 11 k_3) = 1 ∧ ¬ (s8 11 k_3) = 3 ∧ ¬ (s8 11 k_3) = 6 ∧ ¬ (s8 11 k_3) = 4 ∧ ¬ (s8 11 k_3) = 2 ∧ ¬ (s8 11 k_3) = 7 ∧ v248 = 0) ∨ (¬ (s8 11 k_3) = 1 ∧ ¬ (s8 11 k_3) = 3 ∧ ¬ (s8 11 k_3) = 6 ∧ ¬ (s8 11 k_3) = 4 ∧ ¬ (s8 11 k_3) = 2 ∧ (s8 11 k_3) = 7 ∧ v248 = (-2)) ∨ (¬ (s8 11 k_3) = 1 ∧ ¬ (s8 11 k_3) = 3 ∧ ¬ (s8 11 k_3) = 6 ∧ ¬ (s8 11 k_3) = 4 ∧ (s8 11 k_3) = 2 ∧ v248 = (-4)) ∨ (¬ (s8 11 k_3) = 1 ∧ ¬ (s8 11 k_3) = 3 ∧ ¬ (s8 11 k_3) = 6 ∧ (s8 11 k_3) = 4 ∧ v248 = 2) ∨ (¬ (s8 11 k_3) = 1 ∧ (s8 11 k_3) = 3 ∧ v248 = 4) ∨ ((s8 11 k_3) = 1 ∧ v248 = 6) → zW zro 165 103 [some (.ref 6), some (.int (Int32.ofInt n)), some (.int (Int32.ofInt w)), some (.ref P_2), some (.int (Int32.ofInt (k_3 : Int))), some (.int (Int32.ofInt (s8 11 k_3))), some (.int (Int32.ofInt v_205)), w6, w7] [.int (Int32.ofInt v248), .int (Int32.ofInt (2 * (s8 9 k_3)))] (zN L X2 (zhi s8) R2 G2 (nc + 1) (ns + 2)) Q := by
          intro v248 c250
          refine zW.jadd rfl ?_
          refine zW.run 4 (pc' := 110) (ls' := [some (.ref 6), some (.int (Int32.ofInt n)), some (.int (Int32.ofInt w)), some (.ref P_2), some (.int (Int32.ofInt (k_3 : Int))), some (.int (Int32.ofInt (s8 11 k_3))), some (.int (Int32.ofInt v_205)), some (.int (Int32.ofInt ((2 * (s8 9 k_3)) + v248))), w7]) (st' := [.int (Int32.ofInt 5), .int (Int32.ofInt (k_3 : Int)), .ref 6]) (σ' := (zN L X2 (zhi s8) R2 G2 (nc + 1) (ns + 2))) (fun n => rfl) ?_
          refine zW.callV rfl (by decide) rfl rfl rfl rfl rfl (Nat.le_of_ble_eq_true rfl) ?_
          refine t_S_ofSquare_5 S2 V9 (x := (k_3 : Int)) (by omega) (fun v_251 f252 => ?_)
          show zW zro 165 113 [some (.ref 6), some (.int (Int32.ofInt n)), some (.int (Int32.ofInt w)), some (.ref P_2), some (.int (Int32.ofInt (k_3 : Int))), some (.int (Int32.ofInt (s8 11 k_3))), some (.int (Int32.ofInt v_205)), some (.int (Int32.ofInt ((2 * (s8 9 k_3)) + v248))), w7] [.int (Int32.ofInt v_251)] (zN L X2 (zhi s8) R2 G2 (nc + 1) (ns + 2)) Q
          simp only [Int.toNat_natCast] at f252
          refine zW.run 1 (pc' := 115) (ls' := [some (.ref 6), some (.int (Int32.ofInt n)), some (.int (Int32.ofInt w)), some (.ref P_2), some (.int (Int32.ofInt (k_3 : Int))), some (.int (Int32.ofInt (s8 11 k_3))), some (.int (Int32.ofInt v_205)), some (.int (Int32.ofInt ((2 * (s8 9 k_3)) + v248))), w7]) (st' := [.int (Int32.ofInt ((2 * (s8 9 k_3)) + v248)), .int (Int32.ofInt v_251)]) (σ' := (zN L X2 (zhi s8) R2 G2 (nc + 1) (ns + 2))) (fun n => rfl) ?_
          refine zW.jcmp_ne rfl (by omega) (fun c253 => ?_) (fun c253 => ?_)
          · skip
            refine zW.run 1 (pc' := 184) (ls' := [some (.ref 6), some (.int (Int32.ofInt n)), some (.int (Int32.ofInt w)), some (.ref P_2), some (.int (Int32.ofInt (k_3 : Int))), some (.int (Int32.ofInt (s8 11 k_3))), some (.int (Int32.ofInt v_205)), some (.int (Int32.ofInt ((2 * (s8 9 k_3)) + v248))), w7]) (st' := [.int (Int32.ofInt 0)]) (σ' := (zN L X2 (zhi s8) R2 G2 (nc + 1) (ns + 2))) (fun n => rfl) ?_
            exfalso
            omega
          · skip
            refine zW.run 3 (pc' := 123) (ls' := [some (.ref 6), some (.int (Int32.ofInt n)), some (.int (Int32.ofInt w)), some (.ref P_2), some (.int (Int32.ofInt (k_3 : Int))), some (.int (Int32.ofInt (s8 11 k_3))), some (.int (Int32.ofInt v_205)), some (.int (Int32.ofInt ((2 * (s8 9 k_3)) + v248))), w7]) (st' := [.int (Int32.ofInt 6), .int (Int32.ofInt (k_3 : Int)), .ref 6]) (σ' := (zN L X2 (zhi s8) R2 G2 (nc + 1) (ns + 2))) (fun n => rfl) ?_
            refine zW.callV rfl (by decide) rfl rfl rfl rfl rfl (Nat.le_of_ble_eq_true rfl) ?_
            refine t_S_ofSquare_6 S2 V9 (x := (k_3 : Int)) (by omega) (fun t_254 v_255 f256 f257 => ?_)
            show zW zro 165 126 [some (.ref 6), some (.int (Int32.ofInt n)), some (.int (Int32.ofInt w)), some (.ref P_2), some (.int (Int32.ofInt (k_3 : Int))), some (.int (Int32.ofInt (s8 11 k_3))), some (.int (Int32.ofInt v_205)), some (.int (Int32.ofInt ((2 * (s8 9 k_3)) + v248))), w7] [.int (Int32.ofInt v_255)] (zN L X2 (zhi s8) R2 G2 (nc + 1) (ns + 2)) Q
            simp only [Int.toNat_natCast] at f256 f257
            refine zW.run 3 (pc' := 131) (ls' := [some (.ref 6), some (.int (Int32.ofInt n)), some (.int (Int32.ofInt w)), some (.ref P_2), some (.int (Int32.ofInt (k_3 : Int))), some (.int (Int32.ofInt (s8 11 k_3))), some (.int (Int32.ofInt v_205)), some (.int (Int32.ofInt ((2 * (s8 9 k_3)) + v248))), w7]) (st' := [.int (Int32.ofInt 5), .int (Int32.ofInt (s8 11 k_3)), .int (Int32.ofInt ((2 * (s8 9 k_3)) + v248)), .int (Int32.ofInt v_255)]) (σ' := (zN L X2 (zhi s8) R2 G2 (nc + 1) (ns + 2))) (fun n => rfl) ?_
            have J259 : ∀ (v258 : Int), (¬ (s8 11 k_3) = 5 ∧ v258 = 1) ∨ ((s8 11 k_3) = 5 ∧ v258 = (-2)) → zW zro 165 140 [some (.ref 6), some (.int (Int32.ofInt n)), some (.int (Int32.ofInt w)), some (.ref P_2), some (.int (Int32.ofInt (k_3 : Int))), some (.int (Int32.ofInt (s8 11 k_3))), some (.int (Int32.ofInt v_205)), some (.int (Int32.ofInt ((2 * (s8 9 k_3)) + v248))), w7] [.int (Int32.ofInt v258), .int (Int32.ofInt ((2 * (s8 9 k_3)) + v248)), .int (Int32.ofInt v_255)] (zN L X2 (zhi s8) R2 G2 (nc + 1) (ns + 2)) Q := by
              intro v258 c260
              refine zW.jadd rfl ?_
              refine zW.jcmp_ne rfl (by omega) (fun c261 => ?_) (fun c261 => ?_)
              · skip
                refine zW.run 1 (pc' := 184) (ls' := [some (.ref 6), some (.int (Int32.ofInt n)), some (.int (Int32.ofInt w)), some (.ref P_2), some (.int (Int32.ofInt (k_3 : Int))), some (.int (Int32.ofInt (s8 11 k_3))), some (.int (Int32.ofInt v_205)), some (.int (Int32.ofInt ((2 * (s8 9 k_3)) + v248))), w7]) (st' := [.int (Int32.ofInt 0)]) (σ' := (zN L X2 (zhi s8) R2 G2 (nc + 1) (ns + 2))) (fun n => rfl) ?_
                exfalso
                omega
              · skip
                refine zW.run 2 (pc' := 147) (ls' := [some (.ref 6), some (.int (Int32.ofInt n)), some (.int (Int32.ofInt w)), some (.ref P_2), some (.int (Int32.ofInt (k_3 : Int))), some (.int (Int32.ofInt (s8 11 k_3))), some (.int (Int32.ofInt v_205)), some (.int (Int32.ofInt ((2 * (s8 9 k_3)) + v248))), w7]) (st' := [.int (Int32.ofInt 1), .int (Int32.ofInt (s8 11 k_3))]) (σ' := (zN L X2 (zhi s8) R2 G2 (nc + 1) (ns + 2))) (fun n => rfl) ?_
                have J263 : ∀ (v262 : Int), (¬ (s8 11 k_3) = 1 ∧ v262 = 0) ∨ ((s8 11 k_3) = 1 ∧ v262 = 1) → zW zro 165 155 [some (.ref 6), some (.int (Int32.ofInt n)), some (.int (Int32.ofInt w)), some (.ref P_2), some (.int (Int32.ofInt (k_3 : Int))), some (.int (Int32.ofInt (s8 11 k_3))), some (.int (Int32.ofInt v_205)), some (.int (Int32.ofInt ((2 * (s8 9 k_3)) + v248))), w7] [.int (Int32.ofInt v262)] (zN L X2 (zhi s8) R2 G2 (nc + 1) (ns + 2)) Q := by
                  intro v262 c264
                  refine zW.run 3 (pc' := 159) (ls' := [some (.ref 6), some (.int (Int32.ofInt n)), some (.int (Int32.ofInt w)), some (.ref P_2), some (.int (Int32.ofInt (k_3 : Int))), some (.int (Int32.ofInt (s8 11 k_3))), some (.int (Int32.ofInt v_205)), some (.int (Int32.ofInt ((2 * (s8 9 k_3)) + v248))), w7]) (st' := [.int (Int32.ofInt 3), .int (Int32.ofInt (k_3 : Int)), .ref 6, .int (Int32.ofInt v262)]) (σ' := (zN L X2 (zhi s8) R2 G2 (nc + 1) (ns + 2))) (fun n => rfl) ?_
                  refine zW.callV rfl (by decide) rfl rfl rfl rfl rfl (Nat.le_of_ble_eq_true rfl) ?_
                  refine t_S_ofSquare_3 S2 V9 (x := (k_3 : Int)) (by omega) (fun v_265 f266 => ?_)
                  show zW zro 165 162 [some (.ref 6), some (.int (Int32.ofInt n)), some (.int (Int32.ofInt w)), some (.ref P_2), some (.int (Int32.ofInt (k_3 : Int))), some (.int (Int32.ofInt (s8 11 k_3))), some (.int (Int32.ofInt v_205)), some (.int (Int32.ofInt ((2 * (s8 9 k_3)) + v248))), w7] [.int (Int32.ofInt v_265), .int (Int32.ofInt v262)] (zN L X2 (zhi s8) R2 G2 (nc + 1) (ns + 2)) Q
                  simp only [Int.toNat_natCast] at f266
                  have J268 : ∀ (v267 : Int), (v_265 ≤ 0 ∧ v267 = 0) ∨ (v_265 > 0 ∧ v267 = 1) → zW zro 165 170 [some (.ref 6), some (.int (Int32.ofInt n)), some (.int (Int32.ofInt w)), some (.ref P_2), some (.int (Int32.ofInt (k_3 : Int))), some (.int (Int32.ofInt (s8 11 k_3))), some (.int (Int32.ofInt v_205)), some (.int (Int32.ofInt ((2 * (s8 9 k_3)) + v248))), w7] [.int (Int32.ofInt v267), .int (Int32.ofInt v262)] (zN L X2 (zhi s8) R2 G2 (nc + 1) (ns + 2)) Q := by
                    intro v267 c269
                    refine zW.jcmp_ne rfl (by omega) (fun c270 => ?_) (fun c270 => ?_)
                    · skip
                      refine zW.run 1 (pc' := 184) (ls' := [some (.ref 6), some (.int (Int32.ofInt n)), some (.int (Int32.ofInt w)), some (.ref P_2), some (.int (Int32.ofInt (k_3 : Int))), some (.int (Int32.ofInt (s8 11 k_3))), some (.int (Int32.ofInt v_205)), some (.int (Int32.ofInt ((2 * (s8 9 k_3)) + v248))), w7]) (st' := [.int (Int32.ofInt 0)]) (σ' := (zN L X2 (zhi s8) R2 G2 (nc + 1) (ns + 2))) (fun n => rfl) ?_
                      exfalso
                      omega
                    · skip
                      refine zW.run 3 (pc' := 177) (ls' := [some (.ref 6), some (.int (Int32.ofInt n)), some (.int (Int32.ofInt w)), some (.ref P_2), some (.int (Int32.ofInt (k_3 : Int))), some (.int (Int32.ofInt (s8 11 k_3))), some (.int (Int32.ofInt v_205)), some (.int (Int32.ofInt ((2 * (s8 9 k_3)) + v248))), w7]) (st' := [.int (Int32.ofInt 4), .int (Int32.ofInt (k_3 : Int)), .ref 6]) (σ' := (zN L X2 (zhi s8) R2 G2 (nc + 1) (ns + 2))) (fun n => rfl) ?_
                      refine zW.callV rfl (by decide) rfl rfl rfl rfl rfl (Nat.le_of_ble_eq_true rfl) ?_
                      refine t_S_ofSquare_4 S2 V9 (x := (k_3 : Int)) (by omega) ?_
                      show zW zro 165 180 [some (.ref 6), some (.int (Int32.ofInt n)), some (.int (Int32.ofInt w)), some (.ref P_2), some (.int (Int32.ofInt (k_3 : Int))), some (.int (Int32.ofInt (s8 11 k_3))), some (.int (Int32.ofInt v_205)), some (.int (Int32.ofInt ((2 * (s8 9 k_3)) + v248))), w7] [.int (Int32.ofInt (s8 13 k_3))] (zN L X2 (zhi s8) R2 G2 (nc + 1) (ns + 2)) Q
                      refine zW.jif_ge rfl (by omega) (fun c271 => ?_) (fun c271 => ?_)
                      · skip
                        exact J209 (some (.int (Int32.ofInt ((2 * (s8 9 k_3)) + v248)))) w7
                      · skip
                        refine zW.run 1 (pc' := 184) (ls' := [some (.ref 6), some (.int (Int32.ofInt n)), some (.int (Int32.ofInt w)), some (.ref P_2), some (.int (Int32.ofInt (k_3 : Int))), some (.int (Int32.ofInt (s8 11 k_3))), some (.int (Int32.ofInt v_205)), some (.int (Int32.ofInt ((2 * (s8 9 k_3)) + v248))), w7]) (st' := [.int (Int32.ofInt 0)]) (σ' := (zN L X2 (zhi s8) R2 G2 (nc + 1) (ns + 2))) (fun n => rfl) ?_
                        exfalso
                        omega
                  refine zW.jif_le rfl (by omega) (fun c272 => ?_) (fun c272 => ?_)
                  · skip
                    refine zW.run 1 (pc' := 170) (ls' := [some (.ref 6), some (.int (Int32.ofInt n)), some (.int (Int32.ofInt w)), some (.ref P_2), some (.int (Int32.ofInt (k_3 : Int))), some (.int (Int32.ofInt (s8 11 k_3))), some (.int (Int32.ofInt v_205)), some (.int (Int32.ofInt ((2 * (s8 9 k_3)) + v248))), w7]) (st' := [.int (Int32.ofInt 0), .int (Int32.ofInt v262)]) (σ' := (zN L X2 (zhi s8) R2 G2 (nc + 1) (ns + 2))) (fun n => rfl) ?_
                    exact J268 0 (by omega)
                  · skip
                    refine zW.run 2 (pc' := 170) (ls' := [some (.ref 6), some (.int (Int32.ofInt n)), some (.int (Int32.ofInt w)), some (.ref P_2), some (.int (Int32.ofInt (k_3 : Int))), some (.int (Int32.ofInt (s8 11 k_3))), some (.int (Int32.ofInt v_205)), some (.int (Int32.ofInt ((2 * (s8 9 k_3)) + v248))), w7]) (st' := [.int (Int32.ofInt 1), .int (Int32.ofInt v262)]) (σ' := (zN L X2 (zhi s8) R2 G2 (nc + 1) (ns + 2))) (fun n => rfl) ?_
                    exact J268 1 (by omega)
                refine zW.jcmp_ne rfl (by omega) (fun c273 => ?_) (fun c273 => ?_)
                · skip
                  refine zW.run 1 (pc' := 155) (ls' := [some (.ref 6), some (.int (Int32.ofInt n)), some (.int (Int32.ofInt w)), some (.ref P_2), some (.int (Int32.ofInt (k_3 : Int))), some (.int (Int32.ofInt (s8 11 k_3))), some (.int (Int32.ofInt v_205)), some (.int (Int32.ofInt ((2 * (s8 9 k_3)) + v248))), w7]) (st' := [.int (Int32.ofInt 0)]) (σ' := (zN L X2 (zhi s8) R2 G2 (nc + 1) (ns + 2))) (fun n => rfl) ?_
                  exact J263 0 (by omega)
                · skip
                  refine zW.run 2 (pc' := 155) (ls' := [some (.ref 6), some (.int (Int32.ofInt n)), some (.int (Int32.ofInt w)), some (.ref P_2), some (.int (Int32.ofInt (k_3 : Int))), some (.int (Int32.ofInt (s8 11 k_3))), some (.int (Int32.ofInt v_205)), some (.int (Int32.ofInt ((2 * (s8 9 k_3)) + v248))), w7]) (st' := [.int (Int32.ofInt 1)]) (σ' := (zN L X2 (zhi s8) R2 G2 (nc + 1) (ns + 2))) (fun n => rfl) ?_
                  exact J263 1 (by omega)
            refine zW.jcmp_ne rfl (by omega) (fun c274 => ?_) (fun c274 => ?_)
            · skip
              refine zW.run 1 (pc' := 140) (ls' := [some (.ref 6), some (.int (Int32.ofInt n)), some (.int (Int32.ofInt w)), some (.ref P_2), some (.int (Int32.ofInt (k_3 : Int))), some (.int (Int32.ofInt (s8 11 k_3))), some (.int (Int32.ofInt v_205)), some (.int (Int32.ofInt ((2 * (s8 9 k_3)) + v248))), w7]) (st' := [.int (Int32.ofInt 1), .int (Int32.ofInt ((2 * (s8 9 k_3)) + v248)), .int (Int32.ofInt v_255)]) (σ' := (zN L X2 (zhi s8) R2 G2 (nc + 1) (ns + 2))) (fun n => rfl) ?_
              exact J259 1 (by omega)
            · skip
              refine zW.run 2 (pc' := 140) (ls' := [some (.ref 6), some (.int (Int32.ofInt n)), some (.int (Int32.ofInt w)), some (.ref P_2), some (.int (Int32.ofInt (k_3 : Int))), some (.int (Int32.ofInt (s8 11 k_3))), some (.int (Int32.ofInt v_205)), some (.int (Int32.ofInt ((2 * (s8 9 k_3)) + v248))), w7]) (st' := [.int (Int32.ofInt (-2)), .int (Int32.ofInt ((2 * (s8 9 k_3)) + v248)), .int (Int32.ofInt v_255)]) (σ' := (zN L X2 (zhi s8) R2 G2 (nc + 1) (ns + 2))) (fun n => rfl) ?_
              exact J259 (-2) (by omega)
        refine zW.jcmp_ne rfl (by omega) (fun c275 => ?_) (fun c275 => ?_)
        · skip
          refine zW.run 2 (pc' := 55) (ls' := [some (.ref 6), some (.int (Int32.ofInt n)), some (.int (Int32.ofInt w)), some (.ref P_2), some (.int (Int32.ofInt (k_3 : Int))), some (.int (Int32.ofInt (s8 11 k_3))), some (.int (Int32.ofInt v_205)), w6, w7]) (st' := [.int (Int32.ofInt 3), .int (Int32.ofInt (s8 11 k_3)), .int (Int32.ofInt (2 * (s8 9 k_3)))]) (σ' := (zN L X2 (zhi s8) R2 G2 (nc + 1) (ns + 2))) (fun n => rfl) ?_
          refine zW.jcmp_ne rfl (by omega) (fun c276 => ?_) (fun c276 => ?_)
          · skip
            refine zW.run 2 (pc' := 66) (ls' := [some (.ref 6), some (.int (Int32.ofInt n)), some (.int (Int32.ofInt w)), some (.ref P_2), some (.int (Int32.ofInt (k_3 : Int))), some (.int (Int32.ofInt (s8 11 k_3))), some (.int (Int32.ofInt v_205)), w6, w7]) (st' := [.int (Int32.ofInt 6), .int (Int32.ofInt (s8 11 k_3)), .int (Int32.ofInt (2 * (s8 9 k_3)))]) (σ' := (zN L X2 (zhi s8) R2 G2 (nc + 1) (ns + 2))) (fun n => rfl) ?_
            refine zW.jcmp_eq rfl (by omega) (fun c277 => ?_) (fun c277 => ?_)
            · skip
              refine zW.run 2 (pc' := 103) (ls' := [some (.ref 6), some (.int (Int32.ofInt n)), some (.int (Int32.ofInt w)), some (.ref P_2), some (.int (Int32.ofInt (k_3 : Int))), some (.int (Int32.ofInt (s8 11 k_3))), some (.int (Int32.ofInt v_205)), w6, w7]) (st' := [.int (Int32.ofInt 2), .int (Int32.ofInt (2 * (s8 9 k_3)))]) (σ' := (zN L X2 (zhi s8) R2 G2 (nc + 1) (ns + 2))) (fun n => rfl) ?_
              exact J249 2 (by omega)
            · skip
              refine zW.run 2 (pc' := 72) (ls' := [some (.ref 6), some (.int (Int32.ofInt n)), some (.int (Int32.ofInt w)), some (.ref P_2), some (.int (Int32.ofInt (k_3 : Int))), some (.int (Int32.ofInt (s8 11 k_3))), some (.int (Int32.ofInt v_205)), w6, w7]) (st' := [.int (Int32.ofInt 4), .int (Int32.ofInt (s8 11 k_3)), .int (Int32.ofInt (2 * (s8 9 k_3)))]) (σ' := (zN L X2 (zhi s8) R2 G2 (nc + 1) (ns + 2))) (fun n => rfl) ?_
              refine zW.jcmp_ne rfl (by omega) (fun c278 => ?_) (fun c278 => ?_)
              · skip
                refine zW.run 2 (pc' := 82) (ls' := [some (.ref 6), some (.int (Int32.ofInt n)), some (.int (Int32.ofInt w)), some (.ref P_2), some (.int (Int32.ofInt (k_3 : Int))), some (.int (Int32.ofInt (s8 11 k_3))), some (.int (Int32.ofInt v_205)), w6, w7]) (st' := [.int (Int32.ofInt 2), .int (Int32.ofInt (s8 11 k_3)), .int (Int32.ofInt (2 * (s8 9 k_3)))]) (σ' := (zN L X2 (zhi s8) R2 G2 (nc + 1) (ns + 2))) (fun n => rfl) ?_
                refine zW.jcmp_ne rfl (by omega) (fun c279 => ?_) (fun c279 => ?_)
                · skip
                  refine zW.run 2 (pc' := 94) (ls' := [some (.ref 6), some (.int (Int32.ofInt n)), some (.int (Int32.ofInt w)), some (.ref P_2), some (.int (Int32.ofInt (k_3 : Int))), some (.int (Int32.ofInt (s8 11 k_3))), some (.int (Int32.ofInt v_205)), w6, w7]) (st' := [.int (Int32.ofInt 7), .int (Int32.ofInt (s8 11 k_3)), .int (Int32.ofInt (2 * (s8 9 k_3)))]) (σ' := (zN L X2 (zhi s8) R2 G2 (nc + 1) (ns + 2))) (fun n => rfl) ?_
                  refine zW.jcmp_ne rfl (by omega) (fun c280 => ?_) (fun c280 => ?_)
                  · skip
                    refine zW.run 1 (pc' := 103) (ls' := [some (.ref 6), some (.int (Int32.ofInt n)), some (.int (Int32.ofInt w)), some (.ref P_2), some (.int (Int32.ofInt (k_3 : Int))), some (.int (Int32.ofInt (s8 11 k_3))), some (.int (Int32.ofInt v_205)), w6, w7]) (st' := [.int (Int32.ofInt 0), .int (Int32.ofInt (2 * (s8 9 k_3)))]) (σ' := (zN L X2 (zhi s8) R2 G2 (nc + 1) (ns + 2))) (fun n => rfl) ?_
                    exact J249 0 (by omega)
                  · skip
                    refine zW.run 2 (pc' := 103) (ls' := [some (.ref 6), some (.int (Int32.ofInt n)), some (.int (Int32.ofInt w)), some (.ref P_2), some (.int (Int32.ofInt (k_3 : Int))), some (.int (Int32.ofInt (s8 11 k_3))), some (.int (Int32.ofInt v_205)), w6, w7]) (st' := [.int (Int32.ofInt (-2)), .int (Int32.ofInt (2 * (s8 9 k_3)))]) (σ' := (zN L X2 (zhi s8) R2 G2 (nc + 1) (ns + 2))) (fun n => rfl) ?_
                    exact J249 (-2) (by omega)
                · skip
                  refine zW.run 2 (pc' := 103) (ls' := [some (.ref 6), some (.int (Int32.ofInt n)), some (.int (Int32.ofInt w)), some (.ref P_2), some (.int (Int32.ofInt (k_3 : Int))), some (.int (Int32.ofInt (s8 11 k_3))), some (.int (Int32.ofInt v_205)), w6, w7]) (st' := [.int (Int32.ofInt (-4)), .int (Int32.ofInt (2 * (s8 9 k_3)))]) (σ' := (zN L X2 (zhi s8) R2 G2 (nc + 1) (ns + 2))) (fun n => rfl) ?_
                  exact J249 (-4) (by omega)
              · skip
                refine zW.run 2 (pc' := 103) (ls' := [some (.ref 6), some (.int (Int32.ofInt n)), some (.int (Int32.ofInt w)), some (.ref P_2), some (.int (Int32.ofInt (k_3 : Int))), some (.int (Int32.ofInt (s8 11 k_3))), some (.int (Int32.ofInt v_205)), w6, w7]) (st' := [.int (Int32.ofInt 2), .int (Int32.ofInt (2 * (s8 9 k_3)))]) (σ' := (zN L X2 (zhi s8) R2 G2 (nc + 1) (ns + 2))) (fun n => rfl) ?_
                exact J249 2 (by omega)
          · skip
            refine zW.run 2 (pc' := 103) (ls' := [some (.ref 6), some (.int (Int32.ofInt n)), some (.int (Int32.ofInt w)), some (.ref P_2), some (.int (Int32.ofInt (k_3 : Int))), some (.int (Int32.ofInt (s8 11 k_3))), some (.int (Int32.ofInt v_205)), w6, w7]) (st' := [.int (Int32.ofInt 4), .int (Int32.ofInt (2 * (s8 9 k_3)))]) (σ' := (zN L X2 (zhi s8) R2 G2 (nc + 1) (ns + 2))) (fun n => rfl) ?_
            exact J249 4 (by omega)
        · skip
          refine zW.run 2 (pc' := 103) (ls' := [some (.ref 6), some (.int (Int32.ofInt n)), some (.int (Int32.ofInt w)), some (.ref P_2), some (.int (Int32.ofInt (k_3 : Int))), some (.int (Int32.ofInt (s8 11 k_3))), some (.int (Int32.ofInt v_205)), w6, w7]) (st' := [.int (Int32.ofInt 6), .int (Int32.ofInt (2 * (s8 9 k_3)))]) (σ' := (zN L X2 (zhi s8) R2 G2 (nc + 1) (ns + 2))) (fun n => rfl) ?_
          exact J249 6 (by omega)
  exact J14 _ 0 none none none none s2 (zV_mono V2 (by omega) (by omega)) (by omega) (fun p f h9 => hb2 p f (by omega)) (by rw [hc2]; exact (zml_0 V 0).symm) (by rw [hd2]; exact (zml_0 V 1).symm) (Nat.lt_succ_self _)
end ZB
