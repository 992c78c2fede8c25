/-! a part of what must be so: v (printed by program) -/
section ZB
variable {ro : Nat → Int32 → zS → Option (zO × zS)} {L : Nat} {X : zK} {s : zJ} {R : Nat → Nat → Option Nat} {G : Nat → Nat → Int64} {nc ns : Nat} {Q : zO → zS → Prop} {g : Nat → Int} {U F T B ph : Int}
set_option maxRecDepth 20000 in
set_option maxHeartbeats 20000000 in
theorem t_L_isSo_v (S : zSR R) (V : zV g U F T B ph s) {n : Int} {w : Int} {d : Int} {e : Int} {j3 : Option Value} {j4 : Option Value} {j5 : Option Value} {j8 : Option Value} (p0 : n = g 2) (p1 : w = g 6) (p2 : 0 ≤ d ∧ d ≤ 5) (p3 : 0 ≤ e ∧ e ≤ 144) (p4 : 0 < e → 3 ≤ d) (p5 : e = zcn s 6 (g 2).toNat) (hQ0 : Q (.inl (some (.int (Int32.ofInt 1)))) (zN L X (zhi s) R G nc ns)) : zW zro 165 854 [some (.ref 6), some (.int (Int32.ofInt n)), some (.int (Int32.ofInt w)), j3, j4, j5, some (.int (Int32.ofInt d)), some (.int (Int32.ofInt e)), j8] [] (zN L X (zhi s) R G nc ns) Q := by
  have f1 := zA_geo (zV_zA V)
  have hB0 := zV_B V
  have J8 : ∀ (e9_2 : Int) (w3 : Option Value) (w4 : Option Value) (w5 : Option Value) (w6 : Option Value) (w7 : Option Value), zW zro 165 867 [some (.ref 6), some (.int (Int32.ofInt n)), some (.int (Int32.ofInt w)), w3, w4, w5, w6, some (.int (Int32.ofInt e9_2)), w7] [] (zN L X (zhi s) R G nc ns) Q := by
    intro e9_2 w3 w4 w5 w6 w7
    have hL9 := zV_zL1 V
    unfold zL1 at hL9
    have hz9 := (zV_zZ1 V).2
    refine zW.run 3 (pc' := 870) (ls' := [some (.ref 6), some (.int (Int32.ofInt n)), some (.int (Int32.ofInt w)), w3, w4, w5, w6, some (.int (Int32.ofInt e9_2)), w7]) (st' := [.int (Int32.ofInt 1), .int (Int32.ofInt n), .ref 6]) (σ' := (zN L X (zhi s) R G nc ns)) (fun n => rfl) ?_
    refine zW.callS rfl rfl rfl rfl rfl (Nat.le_of_ble_eq_true rfl) ?_
    refine t_L_count S V (n := n) (x := 1) (by omega) (by omega) (fun v_9 f10 f11 => ?_)
    show zW zro 165 873 [some (.ref 6), some (.int (Int32.ofInt n)), some (.int (Int32.ofInt w)), w3, w4, w5, w6, some (.int (Int32.ofInt e9_2)), w7] [.int (Int32.ofInt v_9)] (zN L X (zhi s) R G nc ns) Q
    refine zW.run 2 (pc' := 875) (ls' := [some (.ref 6), some (.int (Int32.ofInt n)), some (.int (Int32.ofInt w)), w3, w4, w5, w6, some (.int (Int32.ofInt e9_2)), w7]) (st' := [.int (Int32.ofInt 4), .ref 6, .int (Int32.ofInt v_9)]) (σ' := (zN L X (zhi s) R G nc ns)) (fun n => rfl) ?_
    refine zW.callV rfl (by decide) rfl rfl rfl rfl rfl (Nat.le_of_ble_eq_true rfl) ?_
    refine t_S_ofSiege_4 S V ?_
    show zW zro 165 878 [some (.ref 6), some (.int (Int32.ofInt n)), some (.int (Int32.ofInt w)), w3, w4, w5, w6, some (.int (Int32.ofInt e9_2)), w7] [.int (Int32.ofInt (s 7 13)), .int (Int32.ofInt v_9)] (zN L X (zhi s) R G nc ns) Q
    have f12 := zV_sie V
    refine zW.jadd rfl ?_
    refine zW.run 1 (pc' := 880) (ls' := [some (.ref 6), some (.int (Int32.ofInt n)), some (.int (Int32.ofInt w)), w3, w4, w5, w6, some (.int (Int32.ofInt e9_2)), w7]) (st' := [.int (Int32.ofInt w), .int (Int32.ofInt (v_9 + (s 7 13)))]) (σ' := (zN L X (zhi s) R G nc ns)) (fun n => rfl) ?_
    refine zW.jsub rfl ?_
    refine zW.run 2 (pc' := 885) (ls' := [some (.ref 6), some (.int (Int32.ofInt n)), some (.int (Int32.ofInt w)), w3, w4, w5, w6, some (.int (Int32.ofInt e9_2)), some (.int (Int32.ofInt ((v_9 + (s 7 13)) - w)))]) (st' := [.int (Int32.ofInt ((v_9 + (s 7 13)) - w))]) (σ' := (zN L X (zhi s) R G nc ns)) (fun n => rfl) ?_
    refine zW.jif_lt rfl (by omega) (fun c13 => ?_) (fun c13 => ?_)
    · skip
      refine zW.run 1 (pc' := 928) (ls' := [some (.ref 6), some (.int (Int32.ofInt n)), some (.int (Int32.ofInt w)), w3, w4, w5, w6, some (.int (Int32.ofInt e9_2)), some (.int (Int32.ofInt ((v_9 + (s 7 13)) - w)))]) (st' := [.int (Int32.ofInt 0)]) (σ' := (zN L X (zhi s) R G nc ns)) (fun n => rfl) ?_
      exfalso
      omega
    · skip
      refine zW.run 3 (pc' := 892) (ls' := [some (.ref 6), some (.int (Int32.ofInt n)), some (.int (Int32.ofInt w)), w3, w4, w5, w6, some (.int (Int32.ofInt e9_2)), some (.int (Int32.ofInt ((v_9 + (s 7 13)) - w)))]) (st' := [.int (Int32.ofInt 4), .ref 6, .int (Int32.ofInt ((v_9 + (s 7 13)) - w))]) (σ' := (zN L X (zhi s) R G nc ns)) (fun n => rfl) ?_
      refine zW.callV rfl (by decide) rfl rfl rfl rfl rfl (Nat.le_of_ble_eq_true rfl) ?_
      refine t_S_ofSiege_4 S V ?_
      show zW zro 165 895 [some (.ref 6), some (.int (Int32.ofInt n)), some (.int (Int32.ofInt w)), w3, w4, w5, w6, some (.int (Int32.ofInt e9_2)), some (.int (Int32.ofInt ((v_9 + (s 7 13)) - w)))] [.int (Int32.ofInt (s 7 13)), .int (Int32.ofInt ((v_9 + (s 7 13)) - w))] (zN L X (zhi s) R G nc ns) Q
      refine zW.jcmp_gt rfl (by omega) (fun c14 => ?_) (fun c14 => ?_)
      · skip
        refine zW.run 1 (pc' := 928) (ls' := [some (.ref 6), some (.int (Int32.ofInt n)), some (.int (Int32.ofInt w)), w3, w4, w5, w6, some (.int (Int32.ofInt e9_2)), some (.int (Int32.ofInt ((v_9 + (s 7 13)) - w)))]) (st' := [.int (Int32.ofInt 0)]) (σ' := (zN L X (zhi s) R G nc ns)) (fun n => rfl) ?_
        exfalso
        omega
      · skip
        refine zW.run 2 (pc' := 900) (ls' := [some (.ref 6), some (.int (Int32.ofInt n)), some (.int (Int32.ofInt w)), w3, w4, w5, w6, some (.int (Int32.ofInt e9_2)), some (.int (Int32.ofInt ((v_9 + (s 7 13)) - w)))]) (st' := [.int (Int32.ofInt 1), .ref 6]) (σ' := (zN L X (zhi s) R G nc ns)) (fun n => rfl) ?_
        refine zW.callV rfl (by decide) rfl rfl rfl rfl rfl (Nat.le_of_ble_eq_true rfl) ?_
        refine t_S_ofSiege_1 S V ?_
        show zW zro 165 903 [some (.ref 6), some (.int (Int32.ofInt n)), some (.int (Int32.ofInt w)), w3, w4, w5, w6, some (.int (Int32.ofInt e9_2)), some (.int (Int32.ofInt ((v_9 + (s 7 13)) - w)))] [.int (Int32.ofInt (s 7 11))] (zN L X (zhi s) R G nc ns) Q
        refine zW.run 1 (pc' := 904) (ls' := [some (.ref 6), some (.int (Int32.ofInt n)), some (.int (Int32.ofInt w)), w3, w4, w5, w6, some (.int (Int32.ofInt e9_2)), some (.int (Int32.ofInt ((v_9 + (s 7 13)) - w)))]) (st' := [.int (Int32.ofInt 2), .int (Int32.ofInt (s 7 11))]) (σ' := (zN L X (zhi s) R G nc ns)) (fun n => rfl) ?_
        refine zW.jcmp_eq rfl (by omega) (fun c15 => ?_) (fun c15 => ?_)
        · skip
          refine zW.run 1 (pc' := 917) (ls' := [some (.ref 6), some (.int (Int32.ofInt n)), some (.int (Int32.ofInt w)), w3, w4, w5, w6, some (.int (Int32.ofInt e9_2)), some (.int (Int32.ofInt ((v_9 + (s 7 13)) - w)))]) (st' := [.ref 6]) (σ' := (zN L X (zhi s) R G nc ns)) (fun n => rfl) ?_
          refine zW.callV rfl (by decide) rfl rfl rfl rfl rfl (Nat.le_of_ble_eq_true rfl) ?_
          refine t_S_isSound S V ?_
          show zW zro 165 920 [some (.ref 6), some (.int (Int32.ofInt n)), some (.int (Int32.ofInt w)), w3, w4, w5, w6, some (.int (Int32.ofInt e9_2)), some (.int (Int32.ofInt ((v_9 + (s 7 13)) - w)))] [.int (Int32.ofInt 1)] (zN L X (zhi s) R G nc ns) Q
          refine zW.run 3 (pc' := 928) (ls' := [some (.ref 6), some (.int (Int32.ofInt n)), some (.int (Int32.ofInt w)), w3, w4, w5, w6, some (.int (Int32.ofInt e9_2)), some (.int (Int32.ofInt ((v_9 + (s 7 13)) - w)))]) (st' := [.int (Int32.ofInt 1)]) (σ' := (zN L X (zhi s) R G nc ns)) (fun n => rfl) ?_
          exact zW.jretb rfl rfl (by decide) hQ0
        · skip
          refine zW.run 2 (pc' := 909) (ls' := [some (.ref 6), some (.int (Int32.ofInt n)), some (.int (Int32.ofInt w)), w3, w4, w5, w6, some (.int (Int32.ofInt e9_2)), some (.int (Int32.ofInt ((v_9 + (s 7 13)) - w)))]) (st' := [.int (Int32.ofInt 2), .ref 6]) (σ' := (zN L X (zhi s) R G nc ns)) (fun n => rfl) ?_
          refine zW.callV rfl (by decide) rfl rfl rfl rfl rfl (Nat.le_of_ble_eq_true rfl) ?_
          refine t_S_ofSiege_2 S V ?_
          show zW zro 165 912 [some (.ref 6), some (.int (Int32.ofInt n)), some (.int (Int32.ofInt w)), w3, w4, w5, w6, some (.int (Int32.ofInt e9_2)), some (.int (Int32.ofInt ((v_9 + (s 7 13)) - w)))] [.int (Int32.ofInt (s 7 12))] (zN L X (zhi s) R G nc ns) Q
          refine zW.run 1 (pc' := 913) (ls' := [some (.ref 6), some (.int (Int32.ofInt n)), some (.int (Int32.ofInt w)), w3, w4, w5, w6, some (.int (Int32.ofInt e9_2)), some (.int (Int32.ofInt ((v_9 + (s 7 13)) - w)))]) (st' := [.int (Int32.ofInt (-1)), .int (Int32.ofInt (s 7 12))]) (σ' := (zN L X (zhi s) R G nc ns)) (fun n => rfl) ?_
          refine zW.jcmp_ne rfl (by omega) (fun c16 => ?_) (fun c16 => ?_)
          · skip
            refine zW.run 1 (pc' := 928) (ls' := [some (.ref 6), some (.int (Int32.ofInt n)), some (.int (Int32.ofInt w)), w3, w4, w5, w6, some (.int (Int32.ofInt e9_2)), some (.int (Int32.ofInt ((v_9 + (s 7 13)) - w)))]) (st' := [.int (Int32.ofInt 0)]) (σ' := (zN L X (zhi s) R G nc ns)) (fun n => rfl) ?_
            exfalso
            omega
          · skip
            refine zW.run 1 (pc' := 917) (ls' := [some (.ref 6), some (.int (Int32.ofInt n)), some (.int (Int32.ofInt w)), w3, w4, w5, w6, some (.int (Int32.ofInt e9_2)), some (.int (Int32.ofInt ((v_9 + (s 7 13)) - w)))]) (st' := [.ref 6]) (σ' := (zN L X (zhi s) R G nc ns)) (fun n => rfl) ?_
            refine zW.callV rfl (by decide) rfl rfl rfl rfl rfl (Nat.le_of_ble_eq_true rfl) ?_
            refine t_S_isSound S V ?_
            show zW zro 165 920 [some (.ref 6), some (.int (Int32.ofInt n)), some (.int (Int32.ofInt w)), w3, w4, w5, w6, some (.int (Int32.ofInt e9_2)), some (.int (Int32.ofInt ((v_9 + (s 7 13)) - w)))] [.int (Int32.ofInt 1)] (zN L X (zhi s) R G nc ns) Q
            refine zW.run 3 (pc' := 928) (ls' := [some (.ref 6), some (.int (Int32.ofInt n)), some (.int (Int32.ofInt w)), w3, w4, w5, w6, some (.int (Int32.ofInt e9_2)), some (.int (Int32.ofInt ((v_9 + (s 7 13)) - w)))]) (st' := [.int (Int32.ofInt 1)]) (σ' := (zN L X (zhi s) R G nc ns)) (fun n => rfl) ?_
            exact zW.jretb rfl rfl (by decide) hQ0
  refine zW.run 1 (pc' := 856) (ls' := [some (.ref 6), some (.int (Int32.ofInt n)), some (.int (Int32.ofInt w)), j3, j4, j5, some (.int (Int32.ofInt d)), some (.int (Int32.ofInt e)), j8]) (st' := [.int (Int32.ofInt e)]) (σ' := (zN L X (zhi s) R G nc ns)) (fun n => rfl) ?_
  refine zW.jif_le rfl (by omega) (fun c17 => ?_) (fun c17 => ?_)
  · skip
    exact J8 e j3 j4 j5 (some (.int (Int32.ofInt d))) j8
  · skip
    refine zW.run 2 (pc' := 862) (ls' := [some (.ref 6), some (.int (Int32.ofInt n)), some (.int (Int32.ofInt w)), j3, j4, j5, some (.int (Int32.ofInt d)), some (.int (Int32.ofInt e)), j8]) (st' := [.int (Int32.ofInt 3), .int (Int32.ofInt d)]) (σ' := (zN L X (zhi s) R G nc ns)) (fun n => rfl) ?_
    refine zW.jcmp_ge rfl (by omega) (fun c18 => ?_) (fun c18 => ?_)
    · skip
      exact J8 e j3 j4 j5 (some (.int (Int32.ofInt d))) j8
    · skip
      refine zW.run 1 (pc' := 866) (ls' := [some (.ref 6), some (.int (Int32.ofInt n)), some (.int (Int32.ofInt w)), j3, j4, j5, some (.int (Int32.ofInt d)), some (.int (Int32.ofInt e)), j8]) (st' := [.int (Int32.ofInt 0)]) (σ' := (zN L X (zhi s) R G nc ns)) (fun n => rfl) ?_
      exfalso
      omega
end ZB
