/-! men are mustered: the rest (printed by program) -/
section ZB
variable {ro : Nat → Int32 → zS → Option (zO × zS)} {L : Nat} {X : zK} {s : zJ} {R : Nat → Nat → Option Nat} {G : Nat → Nat → Int64} {nc ns : Nat} {Q : zO → zS → Prop} {g : Nat → Int} {U F T B ph : Int}
set_option maxRecDepth 20000 in
set_option maxHeartbeats 20000000 in
theorem t_Siege_musterAll_t (S : zSR R) {d : Int} {e : Int} {c : Int} {s0 : zJ} {j3 : Option Value} {j4 : Option Value} {j5 : Option Value} {j6 : Option Value} (p0 : zMu c s0 8 6 s) (p1 : 0 ≤ s0 8 12 ∧ s0 8 12 < c) (p2 : 0 ≤ s0 8 13 ∧ s0 8 13 < c) (p3 : 0 ≤ e ∧ e ≤ 1000) (hQ0 : ∀ (s1 : zJ), zMv c s0 s1 → Q (.inl none) (zN L X (zhi s1) R G nc ns)) : zW ro 149 139 [some (.ref 7), some (.int (Int32.ofInt d)), some (.int (Int32.ofInt e)), j3, j4, j5, j6] [] (zN L X (zhi s) R G nc ns) Q := by
  refine zW.run 1 (pc' := 140) (ls' := [some (.ref 7), some (.int (Int32.ofInt d)), some (.int (Int32.ofInt e)), j3, j4, j5, j6]) (st' := [.int (Int32.ofInt e)]) (σ' := (zN L X (zhi s) R G nc ns)) (fun n => rfl) ?_
  refine zW.callS rfl rfl rfl rfl rfl (Nat.le_of_ble_eq_true rfl) ?_
  refine t_S_nextDrawn S (d := e) (by omega) (fun v_1 f2 => ?_)
  show zW ro 149 143 [some (.ref 7), some (.int (Int32.ofInt d)), some (.int (Int32.ofInt e)), j3, j4, j5, j6] [.int (Int32.ofInt v_1)] (zN L X (zhi s) R G nc ns) Q
  refine zW.run 4 (pc' := 149) (ls' := [some (.ref 7), some (.int (Int32.ofInt d)), some (.int (Int32.ofInt v_1)), j3, j4, j5, j6]) (st' := [.int (Int32.ofInt v_1), .int (Int32.ofInt 200), .ref 7]) (σ' := (zN L X (zhi s) R G nc ns)) (fun n => rfl) ?_
  refine zW.jadd rfl ?_
  refine zW.jput rfl rfl rfl ?_
  refine zW.run 1 (pc' := 154) (ls' := [some (.ref 7), some (.int (Int32.ofInt d)), some (.int (Int32.ofInt v_1)), j3, j4, j5, j6]) (st' := [.int (Int32.ofInt v_1)]) (σ' := (zN L X (zhi (zup s 7 14 (200 + v_1))) R G nc ns)) (fun n => rfl) ?_
  refine zW.callS rfl rfl rfl rfl rfl (Nat.le_of_ble_eq_true rfl) ?_
  refine t_S_nextDrawn S (d := v_1) (by omega) (fun v_3 f4 => ?_)
  show zW ro 149 157 [some (.ref 7), some (.int (Int32.ofInt d)), some (.int (Int32.ofInt v_1)), j3, j4, j5, j6] [.int (Int32.ofInt v_3)] (zN L X (zhi (zup s 7 14 (200 + v_1))) R G nc ns) Q
  refine zW.run 5 (pc' := 163) (ls' := [some (.ref 7), some (.int (Int32.ofInt d)), some (.int (Int32.ofInt v_3)), j3, j4, j5, j6]) (st' := [.int (Int32.ofInt 10), .int (Int32.ofInt v_3), .int (Int32.ofInt 5), .ref 7]) (σ' := (zN L X (zhi (zup s 7 14 (200 + v_1))) R G nc ns)) (fun n => rfl) ?_
  refine zW.jrem rfl (by omega) ?_
  refine zW.jadd rfl ?_
  refine zW.jput rfl rfl rfl ?_
  refine zW.run 1 (pc' := 169) (ls' := [some (.ref 7), some (.int (Int32.ofInt d)), some (.int (Int32.ofInt v_3)), j3, j4, j5, j6]) (st' := [.int (Int32.ofInt v_3)]) (σ' := (zN L X (zhi (zup (zup s 7 14 (200 + v_1)) 7 15 (5 + (v_3 % 10)))) R G nc ns)) (fun n => rfl) ?_
  refine zW.callS rfl rfl rfl rfl rfl (Nat.le_of_ble_eq_true rfl) ?_
  refine t_S_nextDrawn S (d := v_3) (by omega) (fun v_5 f6 => ?_)
  show zW ro 149 172 [some (.ref 7), some (.int (Int32.ofInt d)), some (.int (Int32.ofInt v_3)), j3, j4, j5, j6] [.int (Int32.ofInt v_5)] (zN L X (zhi (zup (zup s 7 14 (200 + v_1)) 7 15 (5 + (v_3 % 10)))) R G nc ns) Q
  refine zW.run 2 (pc' := 174) (ls' := [some (.ref 7), some (.int (Int32.ofInt d)), some (.int (Int32.ofInt v_5)), j3, j4, j5, j6]) (st' := [.ref 7]) (σ' := (zN L X (zhi (zup (zup s 7 14 (200 + v_1)) 7 15 (5 + (v_3 % 10)))) R G nc ns)) (fun n => rfl) ?_
  refine zW.getf (v := .ref 23) rfl rfl (zr_7_6 S) ?_
  refine zW.run 3 (pc' := 181) (ls' := [some (.ref 7), some (.int (Int32.ofInt d)), some (.int (Int32.ofInt v_5)), j3, j4, j5, j6]) (st' := [.int (Int32.ofInt 8), .int (Int32.ofInt v_5), .int (Int32.ofInt 4), .ref 23]) (σ' := (zN L X (zhi (zup (zup s 7 14 (200 + v_1)) 7 15 (5 + (v_3 % 10)))) R G nc ns)) (fun n => rfl) ?_
  refine zW.jrem rfl (by omega) ?_
  refine zW.jadd rfl ?_
  refine zW.jput rfl rfl rfl ?_
  exact zW.vret rfl (hQ0 (zup (zup (zup s 7 14 (200 + v_1)) 7 15 (5 + (v_3 % 10))) 23 4 (4 + (v_5 % 8))) (⟨_, _, _, _, p0, by omega, by omega, rfl⟩))
theorem t_Siege_musterAll (S : zSR R) {d : Int} {c : Int} (p0 : zMu c s 0 0 s) (p1 : 0 ≤ s 8 12 ∧ s 8 12 < c) (p2 : 0 ≤ s 8 13 ∧ s 8 13 < c) (p3 : 0 ≤ d ∧ d ≤ 1000) (hQ0 : ∀ (s1 : zJ), zMv c s s1 → Q (.inl none) (zN L X (zhi s1) R G nc ns)) : zW ro 149 0 (zfst [.ref 7, .int (Int32.ofInt d)] 7) [] (zN L X (zhi s) R G nc ns) Q := by
  show zW ro 149 0 [some (.ref 7), some (.int (Int32.ofInt d)), none, none, none, none, none] [] (zN L X (zhi s) R G nc ns) Q
  refine zW.run 7 (pc' := 9) (ls' := [some (.ref 7), some (.int (Int32.ofInt d)), some (.int (Int32.ofInt d)), some (.int (Int32.ofInt 0)), none, none, none]) (st' := []) (σ' := zN L X (zhi s) R G nc ns) (fun n => rfl) ?_
  refine t_Siege_musterAll_s0 S p0 p1 p2 p3 (fun s1 e1 u4 u5 u6 f1 f2 => ?_)
  refine zW.jinc (ls' := [some (.ref 7), some (.int (Int32.ofInt d)), some (.int (Int32.ofInt e1)), some (.int (Int32.ofInt 1)), u4, u5, u6]) rfl (Nat.le_of_ble_eq_true rfl) rfl rfl ?_
  refine zW.run 4 (pc' := 9) (ls' := [some (.ref 7), some (.int (Int32.ofInt d)), some (.int (Int32.ofInt e1)), some (.int (Int32.ofInt 1)), u4, u5, u6]) (st' := []) (σ' := zN L X (zhi s1) R G nc ns) (fun n => rfl) ?_
  refine t_Siege_musterAll_s1 S f1 p1 p2 f2 (fun s2 e2 v4 v5 v6 g1 g2 => ?_)
  refine zW.jinc (ls' := [some (.ref 7), some (.int (Int32.ofInt d)), some (.int (Int32.ofInt e2)), some (.int (Int32.ofInt 2)), v4, v5, v6]) rfl (Nat.le_of_ble_eq_true rfl) rfl rfl ?_
  refine zW.run 4 (pc' := 139) (ls' := [some (.ref 7), some (.int (Int32.ofInt d)), some (.int (Int32.ofInt e2)), some (.int (Int32.ofInt 2)), v4, v5, v6]) (st' := []) (σ' := zN L X (zhi s2) R G nc ns) (fun n => rfl) ?_
  exact t_Siege_musterAll_t S g1 p1 p2 g2 hQ0
set_option maxRecDepth 20000 in
set_option maxHeartbeats 20000000 in
theorem t_S_muster (S : zSR R) {d : Int} {c : Int} (p0 : zMu c s 0 0 s) (p1 : 0 ≤ s 8 12 ∧ s 8 12 < c) (p2 : 0 ≤ s 8 13 ∧ s 8 13 < c) (p3 : 0 ≤ d ∧ d ≤ 99) (p4 : s 7 11 = 0) (p5 : 0 < s 8 11 ∧ s 8 11 ≤ 144) (hQ0 : ∀ (s1 : zJ) (v : Int), zMv c s s1 → Q (.inl (some (.int (Int32.ofInt v)))) (zN L X (zhi s1) R G nc ns)) : zW ro 16 0 (zfst [.ref 6, .int (Int32.ofInt d)] 2) [] (zN L X (zhi s) R G nc ns) Q := by
  show zW ro 16 0 [some (.ref 6), some (.int (Int32.ofInt d))] [] (zN L X (zhi s) R G nc ns) Q
  have hM9 := p0.1
  refine zW.run 1 (pc' := 1) (ls' := [some (.ref 6), some (.int (Int32.ofInt d))]) (st' := [.int (Int32.ofInt d)]) (σ' := (zN L X (zhi s) R G nc ns)) (fun n => rfl) ?_
  refine zW.jif_lt rfl (by omega) (fun c1 => ?_) (fun c1 => ?_)
  · skip
    exfalso
    omega
  · skip
    refine zW.run 2 (pc' := 7) (ls' := [some (.ref 6), some (.int (Int32.ofInt d))]) (st' := [.int (Int32.ofInt 99), .int (Int32.ofInt d)]) (σ' := (zN L X (zhi s) R G nc ns)) (fun n => rfl) ?_
    refine zW.jcmp_le rfl (by omega) (fun c2 => ?_) (fun c2 => ?_)
    · skip
      refine zW.run 1 (pc' := 21) (ls' := [some (.ref 6), some (.int (Int32.ofInt d))]) (st' := [.ref 6]) (σ' := (zN L X (zhi s) R G nc ns)) (fun n => rfl) ?_
      refine zW.getf (v := .ref 7) rfl rfl (zr_6_0 S) ?_
      refine zW.run 1 (pc' := 27) (ls' := [some (.ref 6), some (.int (Int32.ofInt d))]) (st' := [.int (Int32.ofInt (s 7 11))]) (σ' := (zN L X (zhi s) R G nc ns)) (fun n => rfl) ?_
      refine zW.jif_ne rfl (by omega) (fun c3 => ?_) (fun c3 => ?_)
      · skip
        exfalso
        omega
      · skip
        refine zW.run 1 (pc' := 31) (ls' := [some (.ref 6), some (.int (Int32.ofInt d))]) (st' := [.ref 6]) (σ' := (zN L X (zhi s) R G nc ns)) (fun n => rfl) ?_
        refine zW.getf (v := .ref 7) rfl rfl (zr_6_0 S) ?_
        refine zW.getf (v := .ref 8) rfl rfl (zr_7_0 S) ?_
        refine zW.run 1 (pc' := 40) (ls' := [some (.ref 6), some (.int (Int32.ofInt d))]) (st' := [.int (Int32.ofInt (s 8 11))]) (σ' := (zN L X (zhi s) R G nc ns)) (fun n => rfl) ?_
        refine zW.jif_eq rfl (by omega) (fun c4 => ?_) (fun c4 => ?_)
        · skip
          exfalso
          omega
        · skip
          refine zW.run 1 (pc' := 44) (ls' := [some (.ref 6), some (.int (Int32.ofInt d))]) (st' := [.ref 6]) (σ' := (zN L X (zhi s) R G nc ns)) (fun n => rfl) ?_
          refine zW.getf (v := .ref 7) rfl rfl (zr_6_0 S) ?_
          refine zW.run 1 (pc' := 50) (ls' := [some (.ref 6), some (.int (Int32.ofInt d))]) (st' := [.int (Int32.ofInt (s 7 8))]) (σ' := (zN L X (zhi s) R G nc ns)) (fun n => rfl) ?_
          refine zW.jif_gt rfl (by omega) (fun c5 => ?_) (fun c5 => ?_)
          · skip
            exfalso
            omega
          · skip
            refine zW.run 1 (pc' := 54) (ls' := [some (.ref 6), some (.int (Int32.ofInt d))]) (st' := [.ref 6]) (σ' := (zN L X (zhi s) R G nc ns)) (fun n => rfl) ?_
            refine zW.getf (v := .ref 7) rfl rfl (zr_6_0 S) ?_
            refine zW.run 1 (pc' := 60) (ls' := [some (.ref 6), some (.int (Int32.ofInt d))]) (st' := [.int (Int32.ofInt (s 7 7))]) (σ' := (zN L X (zhi s) R G nc ns)) (fun n => rfl) ?_
            refine zW.jif_le rfl (by omega) (fun c6 => ?_) (fun c6 => ?_)
            · skip
              refine zW.run 1 (pc' := 74) (ls' := [some (.ref 6), some (.int (Int32.ofInt d))]) (st' := [.ref 6]) (σ' := (zN L X (zhi s) R G nc ns)) (fun n => rfl) ?_
              refine zW.getf (v := .ref 7) rfl rfl (zr_6_0 S) ?_
              refine zW.run 1 (pc' := 78) (ls' := [some (.ref 6), some (.int (Int32.ofInt d))]) (st' := [.int (Int32.ofInt d), .ref 7]) (σ' := (zN L X (zhi s) R G nc ns)) (fun n => rfl) ?_
              refine zW.callV rfl (by decide) rfl rfl rfl rfl rfl (Nat.le_of_ble_eq_true rfl) ?_
              refine t_Siege_musterAll S (d := d) (c := c) (p0) (by omega) (by omega) (by omega) (fun s7 f8 => ?_)
              show zW ro 16 81 [some (.ref 6), some (.int (Int32.ofInt d))] [] (zN L X (zhi s7) R G nc ns) Q
              refine zW.run 1 (pc' := 82) (ls' := [some (.ref 6), some (.int (Int32.ofInt d))]) (st' := [.ref 6]) (σ' := (zN L X (zhi s7) R G nc ns)) (fun n => rfl) ?_
              refine zW.getf (v := .ref 7) rfl rfl (zr_6_0 S) ?_
              refine zW.run 1 (pc' := 86) (ls' := [some (.ref 6), some (.int (Int32.ofInt d))]) (st' := [.int (Int32.ofInt 0), .ref 7]) (σ' := (zN L X (zhi s7) R G nc ns)) (fun n => rfl) ?_
              refine zW.callV rfl (by decide) rfl rfl rfl rfl rfl (Nat.le_of_ble_eq_true rfl) ?_
              refine t_Siege_menOf_w S (x := 0) (fun v_9 => ?_)
              show zW ro 16 89 [some (.ref 6), some (.int (Int32.ofInt d))] [.int (Int32.ofInt v_9)] (zN L X (zhi s7) R G nc ns) Q
              refine zW.run 1 (pc' := 90) (ls' := [some (.ref 6), some (.int (Int32.ofInt d))]) (st' := [.ref 6, .int (Int32.ofInt v_9)]) (σ' := (zN L X (zhi s7) R G nc ns)) (fun n => rfl) ?_
              refine zW.getf (v := .ref 7) rfl rfl (zr_6_0 S) ?_
              refine zW.run 1 (pc' := 94) (ls' := [some (.ref 6), some (.int (Int32.ofInt d))]) (st' := [.int (Int32.ofInt 1), .ref 7, .int (Int32.ofInt v_9)]) (σ' := (zN L X (zhi s7) R G nc ns)) (fun n => rfl) ?_
              refine zW.callV rfl (by decide) rfl rfl rfl rfl rfl (Nat.le_of_ble_eq_true rfl) ?_
              refine t_Siege_menOf_w S (x := 1) (fun v_10 => ?_)
              show zW ro 16 97 [some (.ref 6), some (.int (Int32.ofInt d))] [.int (Int32.ofInt v_10), .int (Int32.ofInt v_9)] (zN L X (zhi s7) R G nc ns) Q
              refine zW.jsub rfl ?_
              exact zW.jret rfl rfl (hQ0 s7 (v_9 - v_10) (f8))
            · skip
              exfalso
              omega
    · skip
      exfalso
      omega
end ZB
