/-! men are mustered: the first side (printed by program) -/
section ZB
variable {ro : Nat → Int32 → zS → Option (zO × zS)} {L : Nat} {X : zK} {s : zJ} {R : Nat → Nat → Option Nat} {G : Nat → Nat → Int64} {nc ns : Nat} {Q : zO → zS → Prop} {g : Nat → Int} {U F T B ph : Int}
set_option maxRecDepth 20000 in
set_option maxHeartbeats 20000000 in
theorem t_Siege_musterAll_s0 (S : zSR R) {d : Int} {e : Int} {c : Int} {s0 : zJ} {j4 : Option Value} {j5 : Option Value} {j6 : Option Value} (p0 : zMu c s0 0 0 s) (p1 : 0 ≤ s0 8 12 ∧ s0 8 12 < c) (p2 : 0 ≤ s0 8 13 ∧ s0 8 13 < c) (p3 : 0 ≤ e ∧ e ≤ 1000) (hQ0 : ∀ (s1 : zJ) (e1 : Int) (u4 : Option Value) (u5 : Option Value) (u6 : Option Value), zMu c s0 4 3 s1 → 0 ≤ e1 ∧ e1 ≤ 1000 → zW ro 149 133 [some (.ref 7), some (.int (Int32.ofInt d)), some (.int (Int32.ofInt e1)), some (.int (Int32.ofInt 0)), u4, u5, u6] [] (zN L X (zhi s1) R G nc ns) Q) : zW ro 149 9 [some (.ref 7), some (.int (Int32.ofInt d)), some (.int (Int32.ofInt e)), some (.int (Int32.ofInt 0)), j4, j5, j6] [] (zN L X (zhi s) R G nc ns) Q := by
  refine zW.run 2 (pc' := 11) (ls' := [some (.ref 7), some (.int (Int32.ofInt d)), some (.int (Int32.ofInt e)), some (.int (Int32.ofInt 0)), j4, j5, j6]) (st' := [.int (Int32.ofInt 0), .ref 7]) (σ' := (zN L X (zhi s) R G nc ns)) (fun n => rfl) ?_
  refine zW.callV rfl (by decide) rfl rfl rfl rfl rfl (Nat.le_of_ble_eq_true rfl) ?_
  refine t_Siege_of_0 S ?_
  show zW ro 149 14 [some (.ref 7), some (.int (Int32.ofInt d)), some (.int (Int32.ofInt e)), some (.int (Int32.ofInt 0)), j4, j5, j6] [.ref 21] (zN L X (zhi s) R G nc ns) Q
  refine zW.run 1 (pc' := 16) (ls' := [some (.ref 7), some (.int (Int32.ofInt d)), some (.int (Int32.ofInt e)), some (.int (Int32.ofInt 0)), some (.ref 21), j5, j6]) (st' := []) (σ' := (zN L X (zhi s) R G nc ns)) (fun n => rfl) ?_
  have eh9 := p0.2.2.2.2 8 12 (by omega) (by omega) (by omega)
  have eg9 := p0.2.2.2.2 8 13 (by omega) (by omega) (by omega)
  refine zW.run 2 (pc' := 18) (ls' := [some (.ref 7), some (.int (Int32.ofInt d)), some (.int (Int32.ofInt e)), some (.int (Int32.ofInt 0)), some (.ref 21), j5, j6]) (st' := [.int (Int32.ofInt 0), .ref 7]) (σ' := (zN L X (zhi s) R G nc ns)) (fun n => rfl) ?_
  refine zW.callV rfl (by decide) rfl rfl rfl rfl rfl (Nat.le_of_ble_eq_true rfl) ?_
  refine t_Siege_homeOf_0 S ?_
  show zW ro 149 21 [some (.ref 7), some (.int (Int32.ofInt d)), some (.int (Int32.ofInt e)), some (.int (Int32.ofInt 0)), some (.ref 21), j5, j6] [.int (Int32.ofInt (s 8 12))] (zN L X (zhi s) R G nc ns) Q
  refine zW.run 2 (pc' := 24) (ls' := [some (.ref 7), some (.int (Int32.ofInt d)), some (.int (Int32.ofInt e)), some (.int (Int32.ofInt 0)), some (.ref 21), some (.int (Int32.ofInt (s 8 12))), j6]) (st' := [.int (Int32.ofInt e)]) (σ' := (zN L X (zhi s) R G nc ns)) (fun n => rfl) ?_
  refine zW.callS rfl rfl rfl rfl rfl (Nat.le_of_ble_eq_true rfl) ?_
  refine t_S_nextDrawn S (d := e) (by omega) (fun v_1 f2 => ?_)
  show zW ro 149 27 [some (.ref 7), some (.int (Int32.ofInt d)), some (.int (Int32.ofInt e)), some (.int (Int32.ofInt 0)), some (.ref 21), some (.int (Int32.ofInt (s 8 12))), j6] [.int (Int32.ofInt v_1)] (zN L X (zhi s) R G nc ns) Q
  refine zW.run 4 (pc' := 33) (ls' := [some (.ref 7), some (.int (Int32.ofInt d)), some (.int (Int32.ofInt v_1)), some (.int (Int32.ofInt 0)), some (.ref 21), some (.int (Int32.ofInt (s 8 12))), j6]) (st' := [.int (Int32.ofInt v_1), .int (Int32.ofInt 100), .ref 21]) (σ' := (zN L X (zhi s) R G nc ns)) (fun n => rfl) ?_
  refine zW.jadd rfl ?_
  refine zW.jput rfl rfl rfl ?_
  refine zW.run 1 (pc' := 38) (ls' := [some (.ref 7), some (.int (Int32.ofInt d)), some (.int (Int32.ofInt v_1)), some (.int (Int32.ofInt 0)), some (.ref 21), some (.int (Int32.ofInt (s 8 12))), j6]) (st' := [.int (Int32.ofInt v_1)]) (σ' := (zN L X (zhi (zup s 21 0 (100 + v_1))) R G nc ns)) (fun n => rfl) ?_
  refine zW.callS rfl rfl rfl rfl rfl (Nat.le_of_ble_eq_true rfl) ?_
  refine t_S_nextDrawn S (d := v_1) (by omega) (fun v_3 f4 => ?_)
  show zW ro 149 41 [some (.ref 7), some (.int (Int32.ofInt d)), some (.int (Int32.ofInt v_1)), some (.int (Int32.ofInt 0)), some (.ref 21), some (.int (Int32.ofInt (s 8 12))), j6] [.int (Int32.ofInt v_3)] (zN L X (zhi (zup s 21 0 (100 + v_1))) R G nc ns) Q
  refine zW.run 4 (pc' := 47) (ls' := [some (.ref 7), some (.int (Int32.ofInt d)), some (.int (Int32.ofInt v_3)), some (.int (Int32.ofInt 0)), some (.ref 21), some (.int (Int32.ofInt (s 8 12))), j6]) (st' := [.int (Int32.ofInt v_3), .int (Int32.ofInt 40), .ref 21]) (σ' := (zN L X (zhi (zup s 21 0 (100 + v_1))) R G nc ns)) (fun n => rfl) ?_
  refine zW.jadd rfl ?_
  refine zW.jput rfl rfl rfl ?_
  refine zW.run 1 (pc' := 52) (ls' := [some (.ref 7), some (.int (Int32.ofInt d)), some (.int (Int32.ofInt v_3)), some (.int (Int32.ofInt 0)), some (.ref 21), some (.int (Int32.ofInt (s 8 12))), j6]) (st' := [.int (Int32.ofInt v_3)]) (σ' := (zN L X (zhi (zup (zup s 21 0 (100 + v_1)) 21 1 (40 + v_3))) R G nc ns)) (fun n => rfl) ?_
  refine zW.callS rfl rfl rfl rfl rfl (Nat.le_of_ble_eq_true rfl) ?_
  refine t_S_nextDrawn S (d := v_3) (by omega) (fun v_5 f6 => ?_)
  show zW ro 149 55 [some (.ref 7), some (.int (Int32.ofInt d)), some (.int (Int32.ofInt v_3)), some (.int (Int32.ofInt 0)), some (.ref 21), some (.int (Int32.ofInt (s 8 12))), j6] [.int (Int32.ofInt v_5)] (zN L X (zhi (zup (zup s 21 0 (100 + v_1)) 21 1 (40 + v_3))) R G nc ns) Q
  refine zW.run 5 (pc' := 63) (ls' := [some (.ref 7), some (.int (Int32.ofInt d)), some (.int (Int32.ofInt v_5)), some (.int (Int32.ofInt 0)), some (.ref 21), some (.int (Int32.ofInt (s 8 12))), j6]) (st' := [.int (Int32.ofInt 10), .int (Int32.ofInt v_5), .int (Int32.ofInt 10), .ref 21]) (σ' := (zN L X (zhi (zup (zup s 21 0 (100 + v_1)) 21 1 (40 + v_3))) R G nc ns)) (fun n => rfl) ?_
  refine zW.jrem rfl (by omega) ?_
  refine zW.jadd rfl ?_
  refine zW.jput rfl rfl rfl ?_
  have M7 : zMu c s0 0 0 (zup (zup (zup s 21 0 (100 + v_1)) 21 1 (40 + v_3)) 21 2 (10 + (v_5 % 10))) := zMu_p p0 (by decide) (by omega) (by omega) (by omega)
  generalize hs8 : (zup (zup (zup s 21 0 (100 + v_1)) 21 1 (40 + v_3)) 21 2 (10 + (v_5 % 10))) = s8 at M7 ⊢
  refine zW.run 6 (pc' := 78) (ls' := [some (.ref 7), some (.int (Int32.ofInt d)), some (.int (Int32.ofInt v_5)), some (.int (Int32.ofInt 0)), some (.ref 21), some (.int (Int32.ofInt (s 8 12))), some (.int (Int32.ofInt 0))]) (st' := [.int (Int32.ofInt v_5)]) (σ' := (zN L X (zhi s8) R G nc ns)) (fun n => rfl) ?_
  refine zW.callS rfl rfl rfl rfl rfl (Nat.le_of_ble_eq_true rfl) ?_
  refine t_S_nextDrawn S (d := v_5) (by omega) (fun v_9 f10 => ?_)
  show zW ro 149 81 [some (.ref 7), some (.int (Int32.ofInt d)), some (.int (Int32.ofInt v_5)), some (.int (Int32.ofInt 0)), some (.ref 21), some (.int (Int32.ofInt (s 8 12))), some (.int (Int32.ofInt 0))] [.int (Int32.ofInt v_9)] (zN L X (zhi s8) R G nc ns) Q
  refine zW.run 6 (pc' := 89) (ls' := [some (.ref 7), some (.int (Int32.ofInt d)), some (.int (Int32.ofInt v_9)), some (.int (Int32.ofInt 0)), some (.ref 21), some (.int (Int32.ofInt (s 8 12))), some (.int (Int32.ofInt 0))]) (st' := [.int (Int32.ofInt v_9), .int (Int32.ofInt 60), .int (Int32.ofInt (s 8 12)), .int (Int32.ofInt 0), .ref 7]) (σ' := (zN L X (zhi s8) R G nc ns)) (fun n => rfl) ?_
  refine zW.jadd rfl ?_
  refine zW.callV rfl (by decide) rfl rfl rfl rfl rfl (Nat.le_of_ble_eq_true rfl) ?_
  refine t_Siege_placeCompany S (x := 0) (y := (s 8 12)) (d := (60 + v_9)) (n := 0) (M7.1.1) (by omega) (fun v_11 => ?_)
  show zW ro 149 93 [some (.ref 7), some (.int (Int32.ofInt d)), some (.int (Int32.ofInt v_9)), some (.int (Int32.ofInt 0)), some (.ref 21), some (.int (Int32.ofInt (s 8 12))), some (.int (Int32.ofInt 0))] [.int (Int32.ofInt v_11)] (zN L X (zhi (zup (zup (zup (zup s8 (42 + 0) 0 0) (42 + 0) 1 (s 8 12)) (42 + 0) 2 (60 + v_9)) 7 8 ((s8 7 8) + 1))) R G nc ns) Q
  have M12 : zMu c s0 1 0 (zup (zup (zup (zup s8 (42 + 0) 0 0) (42 + 0) 1 (s 8 12)) (42 + 0) 2 (60 + v_9)) 7 8 ((s8 7 8) + 1)) := zMu_c M7 (by decide) (by decide) (by omega) (by omega)
  generalize hs13 : (zup (zup (zup (zup s8 (42 + 0) 0 0) (42 + 0) 1 (s 8 12)) (42 + 0) 2 (60 + v_9)) 7 8 ((s8 7 8) + 1)) = s13 at M12 ⊢
  refine zW.run 1 (pc' := 94) (ls' := [some (.ref 7), some (.int (Int32.ofInt d)), some (.int (Int32.ofInt v_9)), some (.int (Int32.ofInt 0)), some (.ref 21), some (.int (Int32.ofInt (s 8 12))), some (.int (Int32.ofInt 0))]) (st' := []) (σ' := (zN L X (zhi s13) R G nc ns)) (fun n => rfl) ?_
  refine zW.jinc (ls' := [some (.ref 7), some (.int (Int32.ofInt d)), some (.int (Int32.ofInt v_9)), some (.int (Int32.ofInt 0)), some (.ref 21), some (.int (Int32.ofInt (s 8 12))), some (.int (Int32.ofInt 1))]) rfl (Nat.le_of_ble_eq_true rfl) rfl rfl ?_
  refine zW.run 5 (pc' := 78) (ls' := [some (.ref 7), some (.int (Int32.ofInt d)), some (.int (Int32.ofInt v_9)), some (.int (Int32.ofInt 0)), some (.ref 21), some (.int (Int32.ofInt (s 8 12))), some (.int (Int32.ofInt 1))]) (st' := [.int (Int32.ofInt v_9)]) (σ' := (zN L X (zhi s13) R G nc ns)) (fun n => rfl) ?_
  refine zW.callS rfl rfl rfl rfl rfl (Nat.le_of_ble_eq_true rfl) ?_
  refine t_S_nextDrawn S (d := v_9) (by omega) (fun v_14 f15 => ?_)
  show zW ro 149 81 [some (.ref 7), some (.int (Int32.ofInt d)), some (.int (Int32.ofInt v_9)), some (.int (Int32.ofInt 0)), some (.ref 21), some (.int (Int32.ofInt (s 8 12))), some (.int (Int32.ofInt 1))] [.int (Int32.ofInt v_14)] (zN L X (zhi s13) R G nc ns) Q
  refine zW.run 6 (pc' := 89) (ls' := [some (.ref 7), some (.int (Int32.ofInt d)), some (.int (Int32.ofInt v_14)), some (.int (Int32.ofInt 0)), some (.ref 21), some (.int (Int32.ofInt (s 8 12))), some (.int (Int32.ofInt 1))]) (st' := [.int (Int32.ofInt v_14), .int (Int32.ofInt 60), .int (Int32.ofInt (s 8 12)), .int (Int32.ofInt 0), .ref 7]) (σ' := (zN L X (zhi s13) R G nc ns)) (fun n => rfl) ?_
  refine zW.jadd rfl ?_
  refine zW.callV rfl (by decide) rfl rfl rfl rfl rfl (Nat.le_of_ble_eq_true rfl) ?_
  refine t_Siege_placeCompany S (x := 0) (y := (s 8 12)) (d := (60 + v_14)) (n := 1) (M12.1.1) (by omega) (fun v_16 => ?_)
  show zW ro 149 93 [some (.ref 7), some (.int (Int32.ofInt d)), some (.int (Int32.ofInt v_14)), some (.int (Int32.ofInt 0)), some (.ref 21), some (.int (Int32.ofInt (s 8 12))), some (.int (Int32.ofInt 1))] [.int (Int32.ofInt v_16)] (zN L X (zhi (zup (zup (zup (zup s13 (42 + 1) 0 0) (42 + 1) 1 (s 8 12)) (42 + 1) 2 (60 + v_14)) 7 8 ((s13 7 8) + 1))) R G nc ns) Q
  have M17 : zMu c s0 2 0 (zup (zup (zup (zup s13 (42 + 1) 0 0) (42 + 1) 1 (s 8 12)) (42 + 1) 2 (60 + v_14)) 7 8 ((s13 7 8) + 1)) := zMu_c M12 (by decide) (by decide) (by omega) (by omega)
  generalize hs18 : (zup (zup (zup (zup s13 (42 + 1) 0 0) (42 + 1) 1 (s 8 12)) (42 + 1) 2 (60 + v_14)) 7 8 ((s13 7 8) + 1)) = s18 at M17 ⊢
  refine zW.run 1 (pc' := 94) (ls' := [some (.ref 7), some (.int (Int32.ofInt d)), some (.int (Int32.ofInt v_14)), some (.int (Int32.ofInt 0)), some (.ref 21), some (.int (Int32.ofInt (s 8 12))), some (.int (Int32.ofInt 1))]) (st' := []) (σ' := (zN L X (zhi s18) R G nc ns)) (fun n => rfl) ?_
  refine zW.jinc (ls' := [some (.ref 7), some (.int (Int32.ofInt d)), some (.int (Int32.ofInt v_14)), some (.int (Int32.ofInt 0)), some (.ref 21), some (.int (Int32.ofInt (s 8 12))), some (.int (Int32.ofInt 2))]) rfl (Nat.le_of_ble_eq_true rfl) rfl rfl ?_
  refine zW.run 5 (pc' := 78) (ls' := [some (.ref 7), some (.int (Int32.ofInt d)), some (.int (Int32.ofInt v_14)), some (.int (Int32.ofInt 0)), some (.ref 21), some (.int (Int32.ofInt (s 8 12))), some (.int (Int32.ofInt 2))]) (st' := [.int (Int32.ofInt v_14)]) (σ' := (zN L X (zhi s18) R G nc ns)) (fun n => rfl) ?_
  refine zW.callS rfl rfl rfl rfl rfl (Nat.le_of_ble_eq_true rfl) ?_
  refine t_S_nextDrawn S (d := v_14) (by omega) (fun v_19 f20 => ?_)
  show zW ro 149 81 [some (.ref 7), some (.int (Int32.ofInt d)), some (.int (Int32.ofInt v_14)), some (.int (Int32.ofInt 0)), some (.ref 21), some (.int (Int32.ofInt (s 8 12))), some (.int (Int32.ofInt 2))] [.int (Int32.ofInt v_19)] (zN L X (zhi s18) R G nc ns) Q
  refine zW.run 6 (pc' := 89) (ls' := [some (.ref 7), some (.int (Int32.ofInt d)), some (.int (Int32.ofInt v_19)), some (.int (Int32.ofInt 0)), some (.ref 21), some (.int (Int32.ofInt (s 8 12))), some (.int (Int32.ofInt 2))]) (st' := [.int (Int32.ofInt v_19), .int (Int32.ofInt 60), .int (Int32.ofInt (s 8 12)), .int (Int32.ofInt 0), .ref 7]) (σ' := (zN L X (zhi s18) R G nc ns)) (fun n => rfl) ?_
  refine zW.jadd rfl ?_
  refine zW.callV rfl (by decide) rfl rfl rfl rfl rfl (Nat.le_of_ble_eq_true rfl) ?_
  refine t_Siege_placeCompany S (x := 0) (y := (s 8 12)) (d := (60 + v_19)) (n := 2) (M17.1.1) (by omega) (fun v_21 => ?_)
  show zW ro 149 93 [some (.ref 7), some (.int (Int32.ofInt d)), some (.int (Int32.ofInt v_19)), some (.int (Int32.ofInt 0)), some (.ref 21), some (.int (Int32.ofInt (s 8 12))), some (.int (Int32.ofInt 2))] [.int (Int32.ofInt v_21)] (zN L X (zhi (zup (zup (zup (zup s18 (42 + 2) 0 0) (42 + 2) 1 (s 8 12)) (42 + 2) 2 (60 + v_19)) 7 8 ((s18 7 8) + 1))) R G nc ns) Q
  have M22 : zMu c s0 3 0 (zup (zup (zup (zup s18 (42 + 2) 0 0) (42 + 2) 1 (s 8 12)) (42 + 2) 2 (60 + v_19)) 7 8 ((s18 7 8) + 1)) := zMu_c M17 (by decide) (by decide) (by omega) (by omega)
  generalize hs23 : (zup (zup (zup (zup s18 (42 + 2) 0 0) (42 + 2) 1 (s 8 12)) (42 + 2) 2 (60 + v_19)) 7 8 ((s18 7 8) + 1)) = s23 at M22 ⊢
  refine zW.run 1 (pc' := 94) (ls' := [some (.ref 7), some (.int (Int32.ofInt d)), some (.int (Int32.ofInt v_19)), some (.int (Int32.ofInt 0)), some (.ref 21), some (.int (Int32.ofInt (s 8 12))), some (.int (Int32.ofInt 2))]) (st' := []) (σ' := (zN L X (zhi s23) R G nc ns)) (fun n => rfl) ?_
  refine zW.jinc (ls' := [some (.ref 7), some (.int (Int32.ofInt d)), some (.int (Int32.ofInt v_19)), some (.int (Int32.ofInt 0)), some (.ref 21), some (.int (Int32.ofInt (s 8 12))), some (.int (Int32.ofInt 3))]) rfl (Nat.le_of_ble_eq_true rfl) rfl rfl ?_
  refine zW.run 5 (pc' := 78) (ls' := [some (.ref 7), some (.int (Int32.ofInt d)), some (.int (Int32.ofInt v_19)), some (.int (Int32.ofInt 0)), some (.ref 21), some (.int (Int32.ofInt (s 8 12))), some (.int (Int32.ofInt 3))]) (st' := [.int (Int32.ofInt v_19)]) (σ' := (zN L X (zhi s23) R G nc ns)) (fun n => rfl) ?_
  refine zW.callS rfl rfl rfl rfl rfl (Nat.le_of_ble_eq_true rfl) ?_
  refine t_S_nextDrawn S (d := v_19) (by omega) (fun v_24 f25 => ?_)
  show zW ro 149 81 [some (.ref 7), some (.int (Int32.ofInt d)), some (.int (Int32.ofInt v_19)), some (.int (Int32.ofInt 0)), some (.ref 21), some (.int (Int32.ofInt (s 8 12))), some (.int (Int32.ofInt 3))] [.int (Int32.ofInt v_24)] (zN L X (zhi s23) R G nc ns) Q
  refine zW.run 6 (pc' := 89) (ls' := [some (.ref 7), some (.int (Int32.ofInt d)), some (.int (Int32.ofInt v_24)), some (.int (Int32.ofInt 0)), some (.ref 21), some (.int (Int32.ofInt (s 8 12))), some (.int (Int32.ofInt 3))]) (st' := [.int (Int32.ofInt v_24), .int (Int32.ofInt 60), .int (Int32.ofInt (s 8 12)), .int (Int32.ofInt 0), .ref 7]) (σ' := (zN L X (zhi s23) R G nc ns)) (fun n => rfl) ?_
  refine zW.jadd rfl ?_
  refine zW.callV rfl (by decide) rfl rfl rfl rfl rfl (Nat.le_of_ble_eq_true rfl) ?_
  refine t_Siege_placeCompany S (x := 0) (y := (s 8 12)) (d := (60 + v_24)) (n := 3) (M22.1.1) (by omega) (fun v_26 => ?_)
  show zW ro 149 93 [some (.ref 7), some (.int (Int32.ofInt d)), some (.int (Int32.ofInt v_24)), some (.int (Int32.ofInt 0)), some (.ref 21), some (.int (Int32.ofInt (s 8 12))), some (.int (Int32.ofInt 3))] [.int (Int32.ofInt v_26)] (zN L X (zhi (zup (zup (zup (zup s23 (42 + 3) 0 0) (42 + 3) 1 (s 8 12)) (42 + 3) 2 (60 + v_24)) 7 8 ((s23 7 8) + 1))) R G nc ns) Q
  have M27 : zMu c s0 4 0 (zup (zup (zup (zup s23 (42 + 3) 0 0) (42 + 3) 1 (s 8 12)) (42 + 3) 2 (60 + v_24)) 7 8 ((s23 7 8) + 1)) := zMu_c M22 (by decide) (by decide) (by omega) (by omega)
  generalize hs28 : (zup (zup (zup (zup s23 (42 + 3) 0 0) (42 + 3) 1 (s 8 12)) (42 + 3) 2 (60 + v_24)) 7 8 ((s23 7 8) + 1)) = s28 at M27 ⊢
  refine zW.run 1 (pc' := 94) (ls' := [some (.ref 7), some (.int (Int32.ofInt d)), some (.int (Int32.ofInt v_24)), some (.int (Int32.ofInt 0)), some (.ref 21), some (.int (Int32.ofInt (s 8 12))), some (.int (Int32.ofInt 3))]) (st' := []) (σ' := (zN L X (zhi s28) R G nc ns)) (fun n => rfl) ?_
  refine zW.jinc (ls' := [some (.ref 7), some (.int (Int32.ofInt d)), some (.int (Int32.ofInt v_24)), some (.int (Int32.ofInt 0)), some (.ref 21), some (.int (Int32.ofInt (s 8 12))), some (.int (Int32.ofInt 4))]) rfl (Nat.le_of_ble_eq_true rfl) rfl rfl ?_
  refine zW.run 10 (pc' := 110) (ls' := [some (.ref 7), some (.int (Int32.ofInt d)), some (.int (Int32.ofInt v_24)), some (.int (Int32.ofInt 0)), some (.ref 21), some (.int (Int32.ofInt (s 8 12))), some (.int (Int32.ofInt 0))]) (st' := [.int (Int32.ofInt v_24)]) (σ' := (zN L X (zhi s28) R G nc ns)) (fun n => rfl) ?_
  refine zW.callS rfl rfl rfl rfl rfl (Nat.le_of_ble_eq_true rfl) ?_
  refine t_S_nextDrawn S (d := v_24) (by omega) (fun v_29 f30 => ?_)
  show zW ro 149 113 [some (.ref 7), some (.int (Int32.ofInt d)), some (.int (Int32.ofInt v_24)), some (.int (Int32.ofInt 0)), some (.ref 21), some (.int (Int32.ofInt (s 8 12))), some (.int (Int32.ofInt 0))] [.int (Int32.ofInt v_29)] (zN L X (zhi s28) R G nc ns) Q
  refine zW.run 7 (pc' := 121) (ls' := [some (.ref 7), some (.int (Int32.ofInt d)), some (.int (Int32.ofInt v_29)), some (.int (Int32.ofInt 0)), some (.ref 21), some (.int (Int32.ofInt (s 8 12))), some (.int (Int32.ofInt 0))]) (st' := [.int (Int32.ofInt 3), .int (Int32.ofInt v_29), .int (Int32.ofInt 1), .int (Int32.ofInt (s 8 12)), .int (Int32.ofInt 0), .ref 7]) (σ' := (zN L X (zhi s28) R G nc ns)) (fun n => rfl) ?_
  refine zW.jrem rfl (by omega) ?_
  refine zW.jadd rfl ?_
  refine zW.callV rfl (by decide) rfl rfl rfl rfl rfl (Nat.le_of_ble_eq_true rfl) ?_
  refine t_Siege_placeGun S (x := 0) (y := (s 8 12)) (d := (1 + (v_29 % 3))) (n := 0) (M27.1.2) (by omega) (fun v_31 => ?_)
  show zW ro 149 126 [some (.ref 7), some (.int (Int32.ofInt d)), some (.int (Int32.ofInt v_29)), some (.int (Int32.ofInt 0)), some (.ref 21), some (.int (Int32.ofInt (s 8 12))), some (.int (Int32.ofInt 0))] [.int (Int32.ofInt v_31)] (zN L X (zhi (zup (zup (zup (zup s28 (26 + 0) 0 0) (26 + 0) 1 (s 8 12)) (26 + 0) 2 (1 + (v_29 % 3))) 7 7 ((s28 7 7) + 1))) R G nc ns) Q
  have M32 : zMu c s0 4 1 (zup (zup (zup (zup s28 (26 + 0) 0 0) (26 + 0) 1 (s 8 12)) (26 + 0) 2 (1 + (v_29 % 3))) 7 7 ((s28 7 7) + 1)) := zMu_g M27 (by decide) (by decide) (by omega) (by omega)
  generalize hs33 : (zup (zup (zup (zup s28 (26 + 0) 0 0) (26 + 0) 1 (s 8 12)) (26 + 0) 2 (1 + (v_29 % 3))) 7 7 ((s28 7 7) + 1)) = s33 at M32 ⊢
  refine zW.run 1 (pc' := 127) (ls' := [some (.ref 7), some (.int (Int32.ofInt d)), some (.int (Int32.ofInt v_29)), some (.int (Int32.ofInt 0)), some (.ref 21), some (.int (Int32.ofInt (s 8 12))), some (.int (Int32.ofInt 0))]) (st' := []) (σ' := (zN L X (zhi s33) R G nc ns)) (fun n => rfl) ?_
  refine zW.jinc (ls' := [some (.ref 7), some (.int (Int32.ofInt d)), some (.int (Int32.ofInt v_29)), some (.int (Int32.ofInt 0)), some (.ref 21), some (.int (Int32.ofInt (s 8 12))), some (.int (Int32.ofInt 1))]) rfl (Nat.le_of_ble_eq_true rfl) rfl rfl ?_
  refine zW.run 5 (pc' := 110) (ls' := [some (.ref 7), some (.int (Int32.ofInt d)), some (.int (Int32.ofInt v_29)), some (.int (Int32.ofInt 0)), some (.ref 21), some (.int (Int32.ofInt (s 8 12))), some (.int (Int32.ofInt 1))]) (st' := [.int (Int32.ofInt v_29)]) (σ' := (zN L X (zhi s33) R G nc ns)) (fun n => rfl) ?_
  refine zW.callS rfl rfl rfl rfl rfl (Nat.le_of_ble_eq_true rfl) ?_
  refine t_S_nextDrawn S (d := v_29) (by omega) (fun v_34 f35 => ?_)
  show zW ro 149 113 [some (.ref 7), some (.int (Int32.ofInt d)), some (.int (Int32.ofInt v_29)), some (.int (Int32.ofInt 0)), some (.ref 21), some (.int (Int32.ofInt (s 8 12))), some (.int (Int32.ofInt 1))] [.int (Int32.ofInt v_34)] (zN L X (zhi s33) R G nc ns) Q
  refine zW.run 7 (pc' := 121) (ls' := [some (.ref 7), some (.int (Int32.ofInt d)), some (.int (Int32.ofInt v_34)), some (.int (Int32.ofInt 0)), some (.ref 21), some (.int (Int32.ofInt (s 8 12))), some (.int (Int32.ofInt 1))]) (st' := [.int (Int32.ofInt 3), .int (Int32.ofInt v_34), .int (Int32.ofInt 1), .int (Int32.ofInt (s 8 12)), .int (Int32.ofInt 0), .ref 7]) (σ' := (zN L X (zhi s33) R G nc ns)) (fun n => rfl) ?_
  refine zW.jrem rfl (by omega) ?_
  refine zW.jadd rfl ?_
  refine zW.callV rfl (by decide) rfl rfl rfl rfl rfl (Nat.le_of_ble_eq_true rfl) ?_
  refine t_Siege_placeGun S (x := 0) (y := (s 8 12)) (d := (1 + (v_34 % 3))) (n := 1) (M32.1.2) (by omega) (fun v_36 => ?_)
  show zW ro 149 126 [some (.ref 7), some (.int (Int32.ofInt d)), some (.int (Int32.ofInt v_34)), some (.int (Int32.ofInt 0)), some (.ref 21), some (.int (Int32.ofInt (s 8 12))), some (.int (Int32.ofInt 1))] [.int (Int32.ofInt v_36)] (zN L X (zhi (zup (zup (zup (zup s33 (26 + 1) 0 0) (26 + 1) 1 (s 8 12)) (26 + 1) 2 (1 + (v_34 % 3))) 7 7 ((s33 7 7) + 1))) R G nc ns) Q
  have M37 : zMu c s0 4 2 (zup (zup (zup (zup s33 (26 + 1) 0 0) (26 + 1) 1 (s 8 12)) (26 + 1) 2 (1 + (v_34 % 3))) 7 7 ((s33 7 7) + 1)) := zMu_g M32 (by decide) (by decide) (by omega) (by omega)
  generalize hs38 : (zup (zup (zup (zup s33 (26 + 1) 0 0) (26 + 1) 1 (s 8 12)) (26 + 1) 2 (1 + (v_34 % 3))) 7 7 ((s33 7 7) + 1)) = s38 at M37 ⊢
  refine zW.run 1 (pc' := 127) (ls' := [some (.ref 7), some (.int (Int32.ofInt d)), some (.int (Int32.ofInt v_34)), some (.int (Int32.ofInt 0)), some (.ref 21), some (.int (Int32.ofInt (s 8 12))), some (.int (Int32.ofInt 1))]) (st' := []) (σ' := (zN L X (zhi s38) R G nc ns)) (fun n => rfl) ?_
  refine zW.jinc (ls' := [some (.ref 7), some (.int (Int32.ofInt d)), some (.int (Int32.ofInt v_34)), some (.int (Int32.ofInt 0)), some (.ref 21), some (.int (Int32.ofInt (s 8 12))), some (.int (Int32.ofInt 2))]) rfl (Nat.le_of_ble_eq_true rfl) rfl rfl ?_
  refine zW.run 5 (pc' := 110) (ls' := [some (.ref 7), some (.int (Int32.ofInt d)), some (.int (Int32.ofInt v_34)), some (.int (Int32.ofInt 0)), some (.ref 21), some (.int (Int32.ofInt (s 8 12))), some (.int (Int32.ofInt 2))]) (st' := [.int (Int32.ofInt v_34)]) (σ' := (zN L X (zhi s38) R G nc ns)) (fun n => rfl) ?_
  refine zW.callS rfl rfl rfl rfl rfl (Nat.le_of_ble_eq_true rfl) ?_
  refine t_S_nextDrawn S (d := v_34) (by omega) (fun v_39 f40 => ?_)
  show zW ro 149 113 [some (.ref 7), some (.int (Int32.ofInt d)), some (.int (Int32.ofInt v_34)), some (.int (Int32.ofInt 0)), some (.ref 21), some (.int (Int32.ofInt (s 8 12))), some (.int (Int32.ofInt 2))] [.int (Int32.ofInt v_39)] (zN L X (zhi s38) R G nc ns) Q
  refine zW.run 7 (pc' := 121) (ls' := [some (.ref 7), some (.int (Int32.ofInt d)), some (.int (Int32.ofInt v_39)), some (.int (Int32.ofInt 0)), some (.ref 21), some (.int (Int32.ofInt (s 8 12))), some (.int (Int32.ofInt 2))]) (st' := [.int (Int32.ofInt 3), .int (Int32.ofInt v_39), .int (Int32.ofInt 1), .int (Int32.ofInt (s 8 12)), .int (Int32.ofInt 0), .ref 7]) (σ' := (zN L X (zhi s38) R G nc ns)) (fun n => rfl) ?_
  refine zW.jrem rfl (by omega) ?_
  refine zW.jadd rfl ?_
  refine zW.callV rfl (by decide) rfl rfl rfl rfl rfl (Nat.le_of_ble_eq_true rfl) ?_
  refine t_Siege_placeGun S (x := 0) (y := (s 8 12)) (d := (1 + (v_39 % 3))) (n := 2) (M37.1.2) (by omega) (fun v_41 => ?_)
  show zW ro 149 126 [some (.ref 7), some (.int (Int32.ofInt d)), some (.int (Int32.ofInt v_39)), some (.int (Int32.ofInt 0)), some (.ref 21), some (.int (Int32.ofInt (s 8 12))), some (.int (Int32.ofInt 2))] [.int (Int32.ofInt v_41)] (zN L X (zhi (zup (zup (zup (zup s38 (26 + 2) 0 0) (26 + 2) 1 (s 8 12)) (26 + 2) 2 (1 + (v_39 % 3))) 7 7 ((s38 7 7) + 1))) R G nc ns) Q
  have M42 : zMu c s0 4 3 (zup (zup (zup (zup s38 (26 + 2) 0 0) (26 + 2) 1 (s 8 12)) (26 + 2) 2 (1 + (v_39 % 3))) 7 7 ((s38 7 7) + 1)) := zMu_g M37 (by decide) (by decide) (by omega) (by omega)
  generalize hs43 : (zup (zup (zup (zup s38 (26 + 2) 0 0) (26 + 2) 1 (s 8 12)) (26 + 2) 2 (1 + (v_39 % 3))) 7 7 ((s38 7 7) + 1)) = s43 at M42 ⊢
  refine zW.run 1 (pc' := 127) (ls' := [some (.ref 7), some (.int (Int32.ofInt d)), some (.int (Int32.ofInt v_39)), some (.int (Int32.ofInt 0)), some (.ref 21), some (.int (Int32.ofInt (s 8 12))), some (.int (Int32.ofInt 2))]) (st' := []) (σ' := (zN L X (zhi s43) R G nc ns)) (fun n => rfl) ?_
  refine zW.jinc (ls' := [some (.ref 7), some (.int (Int32.ofInt d)), some (.int (Int32.ofInt v_39)), some (.int (Int32.ofInt 0)), some (.ref 21), some (.int (Int32.ofInt (s 8 12))), some (.int (Int32.ofInt 3))]) rfl (Nat.le_of_ble_eq_true rfl) rfl rfl ?_
  refine zW.run 4 (pc' := 133) (ls' := [some (.ref 7), some (.int (Int32.ofInt d)), some (.int (Int32.ofInt v_39)), some (.int (Int32.ofInt 0)), some (.ref 21), some (.int (Int32.ofInt (s 8 12))), some (.int (Int32.ofInt 3))]) (st' := []) (σ' := (zN L X (zhi s43) R G nc ns)) (fun n => rfl) ?_
  exact (hQ0 s43 v_39 (some (.ref 21)) (some (.int (Int32.ofInt (s 8 12)))) (some (.int (Int32.ofInt 3))) (M42) (by omega))
end ZB
