/-! a part of what must be so: q (printed by program) -/
section ZB
variable {ro : Nat → Int32 → zS → Option (zO × zS)} {L : Nat} {X : zK} {s : zJ} {R : Nat → Nat → Option Nat} {G : Nat → Nat → Int64} {nc ns : Nat} {Q : zO → zS → Prop} {g : Nat → Int} {U F T B ph : Int}
set_option maxRecDepth 20000 in
set_option maxHeartbeats 20000000 in
theorem t_L_isSo_q (S : zSR R) (V : zV g U F T B ph s) {n : Int} {w : Int} {k : Nat} {P : Nat} {j5 : Option Value} {j6 : Option Value} {j7 : Option Value} {j8 : Option Value} (p0 : (k : Int) < g 2) (p1 : (zK0 L ++ X)[P]? = some (100, 2)) (p2 : 66 ≤ P ∧ g 8 ≤ (P : Int) ∧ 125 ≤ P) (hQ0 : ∀ (s1 : zJ) (u5 : Option Value) (u6 : Option Value) (u7 : Option Value) (u8 : Option Value), zV g U F T B ph s1 → (∀ p f : Nat, p < 125 → s1 p f = s p f) → s1 P 0 = s P 0 + zma s 0 (k : Int) 12 → s1 P 1 = s P 1 + zma s 1 (k : Int) 12 → zW zro 165 260 [some (.ref 6), some (.int (Int32.ofInt n)), some (.int (Int32.ofInt w)), some (.ref P), some (.int (Int32.ofInt (k : Int))), u5, u6, u7, u8] [] (zN L X (zhi s1) R G nc ns) Q) : zW zro 165 13 [some (.ref 6), some (.int (Int32.ofInt n)), some (.int (Int32.ofInt w)), some (.ref P), some (.int (Int32.ofInt (k : Int))), j5, j6, j7, j8] [] (zN L X (zhi s) R G nc ns) Q := by
  have f1 := zA_geo (zV_zA V)
  have hB0 := zV_B V
  have hkP := p1
  refine zW.run 3 (pc' := 17) (ls' := [some (.ref 6), some (.int (Int32.ofInt n)), some (.int (Int32.ofInt w)), some (.ref P), some (.int (Int32.ofInt (k : Int))), j5, j6, j7, j8]) (st' := [.int (Int32.ofInt 2), .int (Int32.ofInt (k : Int)), .ref 6]) (σ' := (zN L X (zhi s) R G nc ns)) (fun n => rfl) ?_
  refine zW.callV rfl (by decide) rfl rfl rfl rfl rfl (Nat.le_of_ble_eq_true rfl) ?_
  refine t_S_ofSquare_2 S V (x := (k : Int)) (by omega) ?_
  show zW zro 165 20 [some (.ref 6), some (.int (Int32.ofInt n)), some (.int (Int32.ofInt w)), some (.ref P), some (.int (Int32.ofInt (k : Int))), j5, j6, j7, j8] [.int (Int32.ofInt (s 11 k))] (zN L X (zhi s) R G nc ns) Q
  have f2 := zV_sq V (k := k) (by omega)
  refine zW.run 4 (pc' := 27) (ls' := [some (.ref 6), some (.int (Int32.ofInt n)), some (.int (Int32.ofInt w)), some (.ref P), some (.int (Int32.ofInt (k : Int))), some (.int (Int32.ofInt (s 11 k))), j6, j7, j8]) (st' := [.int (Int32.ofInt 7), .int (Int32.ofInt (k : Int)), .ref 6]) (σ' := (zN L X (zhi s) R G nc ns)) (fun n => rfl) ?_
  refine zW.callV rfl (by decide) rfl rfl rfl rfl rfl (Nat.le_of_ble_eq_true rfl) ?_
  refine t_S_ofSquare_7z S V (x := (k : Int)) (by omega) (fun v_3 f4 f5 f6 f7 f8 => ?_)
  show zW zro 165 30 [some (.ref 6), some (.int (Int32.ofInt n)), some (.int (Int32.ofInt w)), some (.ref P), some (.int (Int32.ofInt (k : Int))), some (.int (Int32.ofInt (s 11 k))), j6, j7, j8] [.int (Int32.ofInt v_3)] (zN L X (zhi s) R G nc ns) Q
  simp only [Int.toNat_natCast] at f5 f6 f7
  refine zW.run 5 (pc' := 37) (ls' := [some (.ref 6), some (.int (Int32.ofInt n)), some (.int (Int32.ofInt w)), some (.ref P), some (.int (Int32.ofInt (k : Int))), some (.int (Int32.ofInt (s 11 k))), some (.int (Int32.ofInt v_3)), j7, j8]) (st' := [.int (Int32.ofInt 0), .int (Int32.ofInt (k : Int)), .ref 6, .int (Int32.ofInt 2)]) (σ' := (zN L X (zhi s) R G nc ns)) (fun n => rfl) ?_
  refine zW.callV rfl (by decide) rfl rfl rfl rfl rfl (Nat.le_of_ble_eq_true rfl) ?_
  refine t_S_ofSquare_0 S V (x := (k : Int)) (by omega) ?_
  show zW zro 165 40 [some (.ref 6), some (.int (Int32.ofInt n)), some (.int (Int32.ofInt w)), some (.ref P), some (.int (Int32.ofInt (k : Int))), some (.int (Int32.ofInt (s 11 k))), some (.int (Int32.ofInt v_3)), j7, j8] [.int (Int32.ofInt (s 9 k)), .int (Int32.ofInt 2)] (zN L X (zhi s) R G nc ns) Q
  refine zW.jmul rfl ?_
  have J13 : ∀ (t_9 : Int) (w10 : Option Value) (w11 : Option Value), t_9 = ztw (s 11 k) → zW zro 165 103 [some (.ref 6), some (.int (Int32.ofInt n)), some (.int (Int32.ofInt w)), some (.ref P), some (.int (Int32.ofInt (k : Int))), some (.int (Int32.ofInt (s 11 k))), some (.int (Int32.ofInt v_3)), w10, w11] [.int (Int32.ofInt t_9), .int (Int32.ofInt (2 * (s 9 k)))] (zN L X (zhi s) R G nc ns) Q := by
    intro t_9 w10 w11 c12
    refine zW.jadd rfl ?_
    refine zW.run 1 (pc' := 106) (ls' := [some (.ref 6), some (.int (Int32.ofInt n)), some (.int (Int32.ofInt w)), some (.ref P), some (.int (Int32.ofInt (k : Int))), some (.int (Int32.ofInt (s 11 k))), some (.int (Int32.ofInt v_3)), some (.int (Int32.ofInt ((2 * (s 9 k)) + t_9))), w11]) (st' := []) (σ' := (zN L X (zhi s) R G nc ns)) (fun n => rfl) ?_
    have J16 : ∀ (w14 : Option Value) (w15 : Option Value), zW zro 165 185 [some (.ref 6), some (.int (Int32.ofInt n)), some (.int (Int32.ofInt w)), some (.ref P), some (.int (Int32.ofInt (k : Int))), some (.int (Int32.ofInt (s 11 k))), some (.int (Int32.ofInt v_3)), w14, w15] [] (zN L X (zhi s) R G nc ns) Q := by
      intro w14 w15
      have J21 : ∀ (w17 : Option Value) (w18 : Option Value) (w19 : Option Value) (w20 : Option Value), zW zro 165 219 [some (.ref 6), some (.int (Int32.ofInt n)), some (.int (Int32.ofInt w)), some (.ref P), some (.int (Int32.ofInt (k : Int))), w17, w18, w19, w20] [] (zN L X (zhi s) R G nc ns) Q := by
        intro w17 w18 w19 w20
        refine zW.run 3 (pc' := 224) (ls' := [some (.ref 6), some (.int (Int32.ofInt n)), some (.int (Int32.ofInt w)), some (.ref P), some (.int (Int32.ofInt (k : Int))), w17, w18, w19, w20]) (st' := [.int (Int32.ofInt (k : Int)), .int (Int32.ofInt (k : Int)), .ref 6]) (σ' := (zN L X (zhi s) R G nc ns)) (fun n => rfl) ?_
        refine zW.callV rfl (by decide) rfl rfl rfl rfl rfl (Nat.le_of_ble_eq_true rfl) ?_
        refine t_S_sees S V (x := (k : Int)) (y := (k : Int)) (by omega) (by omega) ?_ (fun f22 => ?_)
        · skip
          show zW zro 165 227 [some (.ref 6), some (.int (Int32.ofInt n)), some (.int (Int32.ofInt w)), some (.ref P), some (.int (Int32.ofInt (k : Int))), w17, w18, w19, w20] [.int (Int32.ofInt 1)] (zN L X (zhi s) R G nc ns) Q
          refine zW.run 4 (pc' := 235) (ls' := [some (.ref 6), some (.int (Int32.ofInt n)), some (.int (Int32.ofInt w)), some (.ref P), some (.int (Int32.ofInt (k : Int))), w17, w18, w19, w20]) (st' := [.int (Int32.ofInt 0), .ref P, .int (Int32.ofInt 0), .ref P]) (σ' := (zN L X (zhi s) R G nc ns)) (fun n => rfl) ?_
          refine zW.jald (n := 2) (v := (s P 0)) rfl hkP (by decide) (by omega) rfl ?_
          refine zW.run 3 (pc' := 241) (ls' := [some (.ref 6), some (.int (Int32.ofInt n)), some (.int (Int32.ofInt w)), some (.ref P), some (.int (Int32.ofInt (k : Int))), w17, w18, w19, w20]) (st' := [.int (Int32.ofInt 8), .int (Int32.ofInt (k : Int)), .ref 6, .int (Int32.ofInt (s P 0)), .int (Int32.ofInt 0), .ref P]) (σ' := (zN L X (zhi s) R G nc ns)) (fun n => rfl) ?_
          refine zW.callV rfl (by decide) rfl rfl rfl rfl rfl (Nat.le_of_ble_eq_true rfl) ?_
          refine t_S_ofSquare_8 S V (x := (k : Int)) (by omega) (fun v_23 f24 f25 => ?_)
          show zW zro 165 244 [some (.ref 6), some (.int (Int32.ofInt n)), some (.int (Int32.ofInt w)), some (.ref P), some (.int (Int32.ofInt (k : Int))), w17, w18, w19, w20] [.int (Int32.ofInt v_23), .int (Int32.ofInt (s P 0)), .int (Int32.ofInt 0), .ref P] (zN L X (zhi s) R G nc ns) Q
          refine zW.jadd rfl ?_
          refine zW.jast (n := 2) rfl hkP (by decide) (by omega) ?_
          have V26 : zV g U F T B ph (zup s P 0 ((s P 0) + v_23)) := (V_irr V (by omega))
          show zW zro 165 246 [some (.ref 6), some (.int (Int32.ofInt n)), some (.int (Int32.ofInt w)), some (.ref P), some (.int (Int32.ofInt (k : Int))), w17, w18, w19, w20] [] (zN L X (zhi (zup s P 0 ((s P 0) + v_23))) R G nc ns) Q
          generalize hs27 : (zup s P 0 ((s P 0) + v_23)) = s27 at V26 ⊢
          have ka28 : ∀ p f : Nat, p < 125 → s27 p f = s p f := fun p f h9 => by rw [← hs27]; exact zup_nj (by omega)
          have kc29 : s27 P 0 = ((s P 0) + v_23) := by rw [← hs27]; exact zup_ej
          have kc30 : s27 P 1 = (s P 1) := by rw [← hs27]; exact (zup_nj (by omega))
          refine zW.run 3 (pc' := 249) (ls' := [some (.ref 6), some (.int (Int32.ofInt n)), some (.int (Int32.ofInt w)), some (.ref P), some (.int (Int32.ofInt (k : Int))), w17, w18, w19, w20]) (st' := [.int (Int32.ofInt 1), .ref P, .int (Int32.ofInt 1), .ref P]) (σ' := (zN L X (zhi s27) R G nc ns)) (fun n => rfl) ?_
          refine zW.jald (n := 2) (v := (s27 P 1)) rfl hkP (by decide) (by omega) rfl ?_
          refine zW.run 3 (pc' := 255) (ls' := [some (.ref 6), some (.int (Int32.ofInt n)), some (.int (Int32.ofInt w)), some (.ref P), some (.int (Int32.ofInt (k : Int))), w17, w18, w19, w20]) (st' := [.int (Int32.ofInt 9), .int (Int32.ofInt (k : Int)), .ref 6, .int (Int32.ofInt (s27 P 1)), .int (Int32.ofInt 1), .ref P]) (σ' := (zN L X (zhi s27) R G nc ns)) (fun n => rfl) ?_
          refine zW.callV rfl (by decide) rfl rfl rfl rfl rfl (Nat.le_of_ble_eq_true rfl) ?_
          refine t_S_ofSquare_9 S V26 (x := (k : Int)) (by omega) (fun v_31 f32 f33 => ?_)
          show zW zro 165 258 [some (.ref 6), some (.int (Int32.ofInt n)), some (.int (Int32.ofInt w)), some (.ref P), some (.int (Int32.ofInt (k : Int))), w17, w18, w19, w20] [.int (Int32.ofInt v_31), .int (Int32.ofInt (s27 P 1)), .int (Int32.ofInt 1), .ref P] (zN L X (zhi s27) R G nc ns) Q
          refine zW.jadd rfl ?_
          refine zW.jast (n := 2) rfl hkP (by decide) (by omega) ?_
          have V34 : zV g U F T B ph (zup s27 P 1 ((s27 P 1) + v_31)) := (V_irr V26 (by omega))
          show zW zro 165 260 [some (.ref 6), some (.int (Int32.ofInt n)), some (.int (Int32.ofInt w)), some (.ref P), some (.int (Int32.ofInt (k : Int))), w17, w18, w19, w20] [] (zN L X (zhi (zup s27 P 1 ((s27 P 1) + v_31))) R G nc ns) Q
          generalize hs35 : (zup s27 P 1 ((s27 P 1) + v_31)) = s35 at V34 ⊢
          have ka36 : ∀ p f : Nat, p < 125 → s35 p f = s27 p f := fun p f h9 => by rw [← hs35]; exact zup_nj (by omega)
          have kc37 : s35 P 0 = (s27 P 0) := by rw [← hs35]; exact (zup_nj (by omega))
          have kc38 : s35 P 1 = ((s27 P 1) + v_31) := by rw [← hs35]; exact zup_ej
          exact (hQ0 s35 w17 w18 w19 w20 V34 (fun p f h9 => (ka36 p f h9).trans (ka28 p f h9)) (by omega) (by have z2 := zma_eq (fun p f h9 => ka28 p f (by omega)) 1 (k : Int); omega))
        · skip
          show zW zro 165 227 [some (.ref 6), some (.int (Int32.ofInt n)), some (.int (Int32.ofInt w)), some (.ref P), some (.int (Int32.ofInt (k : Int))), w17, w18, w19, w20] [.int (Int32.ofInt 0)] (zN L X (zhi s) R G nc ns) Q
          refine zW.run 2 (pc' := 231) (ls' := [some (.ref 6), some (.int (Int32.ofInt n)), some (.int (Int32.ofInt w)), some (.ref P), some (.int (Int32.ofInt (k : Int))), w17, w18, w19, w20]) (st' := [.int (Int32.ofInt 0)]) (σ' := (zN L X (zhi s) R G nc ns)) (fun n => rfl) ?_
          exfalso
          omega
      refine zW.run 2 (pc' := 188) (ls' := [some (.ref 6), some (.int (Int32.ofInt n)), some (.int (Int32.ofInt w)), some (.ref P), some (.int (Int32.ofInt (k : Int))), some (.int (Int32.ofInt (s 11 k))), some (.int (Int32.ofInt v_3)), w14, w15]) (st' := [.int (Int32.ofInt 1), .int (Int32.ofInt (s 11 k))]) (σ' := (zN L X (zhi s) R G nc ns)) (fun n => rfl) ?_
      refine zW.jcmp_eq rfl (by omega) (fun c39 => ?_) (fun c39 => ?_)
      · skip
        refine zW.run 2 (pc' := 200) (ls' := [some (.ref 6), some (.int (Int32.ofInt n)), some (.int (Int32.ofInt w)), some (.ref P), some (.int (Int32.ofInt (k : Int))), some (.int (Int32.ofInt (s 11 k))), some (.int (Int32.ofInt v_3)), w14, w15]) (st' := [.int (Int32.ofInt 1), .int (Int32.ofInt v_3)]) (σ' := (zN L X (zhi s) R G nc ns)) (fun n => rfl) ?_
        refine zW.jcmp_ne rfl (by omega) (fun c40 => ?_) (fun c40 => ?_)
        · skip
          refine zW.run 1 (pc' := 231) (ls' := [some (.ref 6), some (.int (Int32.ofInt n)), some (.int (Int32.ofInt w)), some (.ref P), some (.int (Int32.ofInt (k : Int))), some (.int (Int32.ofInt (s 11 k))), some (.int (Int32.ofInt v_3)), w14, w15]) (st' := [.int (Int32.ofInt 0)]) (σ' := (zN L X (zhi s) R G nc ns)) (fun n => rfl) ?_
          exfalso
          omega
        · skip
          refine zW.run 2 (pc' := 206) (ls' := [some (.ref 6), some (.int (Int32.ofInt n)), some (.int (Int32.ofInt w)), some (.ref P), some (.int (Int32.ofInt (k : Int))), some (.int (Int32.ofInt (s 11 k))), some (.int (Int32.ofInt v_3)), w14, w15]) (st' := [.int (Int32.ofInt 5), .int (Int32.ofInt (s 11 k))]) (σ' := (zN L X (zhi s) R G nc ns)) (fun n => rfl) ?_
          refine zW.jcmp_eq rfl (by omega) (fun c41 => ?_) (fun c41 => ?_)
          · skip
            refine zW.run 1 (pc' := 216) (ls' := [some (.ref 6), some (.int (Int32.ofInt n)), some (.int (Int32.ofInt w)), some (.ref P), some (.int (Int32.ofInt (k : Int))), some (.int (Int32.ofInt (s 11 k))), some (.int (Int32.ofInt v_3)), w14, w15]) (st' := [.int (Int32.ofInt v_3)]) (σ' := (zN L X (zhi s) R G nc ns)) (fun n => rfl) ?_
            refine zW.jif_ne rfl (by omega) (fun c42 => ?_) (fun c42 => ?_)
            · skip
              refine zW.run 1 (pc' := 231) (ls' := [some (.ref 6), some (.int (Int32.ofInt n)), some (.int (Int32.ofInt w)), some (.ref P), some (.int (Int32.ofInt (k : Int))), some (.int (Int32.ofInt (s 11 k))), some (.int (Int32.ofInt v_3)), w14, w15]) (st' := [.int (Int32.ofInt 0)]) (σ' := (zN L X (zhi s) R G nc ns)) (fun n => rfl) ?_
              exfalso
              omega
            · skip
              exact J21 (some (.int (Int32.ofInt (s 11 k)))) (some (.int (Int32.ofInt v_3))) w14 w15
          · skip
            refine zW.run 1 (pc' := 211) (ls' := [some (.ref 6), some (.int (Int32.ofInt n)), some (.int (Int32.ofInt w)), some (.ref P), some (.int (Int32.ofInt (k : Int))), some (.int (Int32.ofInt (s 11 k))), some (.int (Int32.ofInt v_3)), w14, w15]) (st' := [.int (Int32.ofInt (k : Int))]) (σ' := (zN L X (zhi s) R G nc ns)) (fun n => rfl) ?_
            refine zW.jif_ne rfl (by omega) (fun c43 => ?_) (fun c43 => ?_)
            · skip
              exact J21 (some (.int (Int32.ofInt (s 11 k)))) (some (.int (Int32.ofInt v_3))) w14 w15
            · skip
              refine zW.run 1 (pc' := 216) (ls' := [some (.ref 6), some (.int (Int32.ofInt n)), some (.int (Int32.ofInt w)), some (.ref P), some (.int (Int32.ofInt (k : Int))), some (.int (Int32.ofInt (s 11 k))), some (.int (Int32.ofInt v_3)), w14, w15]) (st' := [.int (Int32.ofInt v_3)]) (σ' := (zN L X (zhi s) R G nc ns)) (fun n => rfl) ?_
              refine zW.jif_ne rfl (by omega) (fun c44 => ?_) (fun c44 => ?_)
              · skip
                refine zW.run 1 (pc' := 231) (ls' := [some (.ref 6), some (.int (Int32.ofInt n)), some (.int (Int32.ofInt w)), some (.ref P), some (.int (Int32.ofInt (k : Int))), some (.int (Int32.ofInt (s 11 k))), some (.int (Int32.ofInt v_3)), w14, w15]) (st' := [.int (Int32.ofInt 0)]) (σ' := (zN L X (zhi s) R G nc ns)) (fun n => rfl) ?_
                exfalso
                omega
              · skip
                exact J21 (some (.int (Int32.ofInt (s 11 k)))) (some (.int (Int32.ofInt v_3))) w14 w15
      · skip
        refine zW.run 2 (pc' := 194) (ls' := [some (.ref 6), some (.int (Int32.ofInt n)), some (.int (Int32.ofInt w)), some (.ref P), some (.int (Int32.ofInt (k : Int))), some (.int (Int32.ofInt (s 11 k))), some (.int (Int32.ofInt v_3)), w14, w15]) (st' := [.int (Int32.ofInt 3), .int (Int32.ofInt (s 11 k))]) (σ' := (zN L X (zhi s) R G nc ns)) (fun n => rfl) ?_
        refine zW.jcmp_ne rfl (by omega) (fun c45 => ?_) (fun c45 => ?_)
        · skip
          refine zW.run 2 (pc' := 206) (ls' := [some (.ref 6), some (.int (Int32.ofInt n)), some (.int (Int32.ofInt w)), some (.ref P), some (.int (Int32.ofInt (k : Int))), some (.int (Int32.ofInt (s 11 k))), some (.int (Int32.ofInt v_3)), w14, w15]) (st' := [.int (Int32.ofInt 5), .int (Int32.ofInt (s 11 k))]) (σ' := (zN L X (zhi s) R G nc ns)) (fun n => rfl) ?_
          refine zW.jcmp_eq rfl (by omega) (fun c46 => ?_) (fun c46 => ?_)
          · skip
            refine zW.run 1 (pc' := 216) (ls' := [some (.ref 6), some (.int (Int32.ofInt n)), some (.int (Int32.ofInt w)), some (.ref P), some (.int (Int32.ofInt (k : Int))), some (.int (Int32.ofInt (s 11 k))), some (.int (Int32.ofInt v_3)), w14, w15]) (st' := [.int (Int32.ofInt v_3)]) (σ' := (zN L X (zhi s) R G nc ns)) (fun n => rfl) ?_
            refine zW.jif_ne rfl (by omega) (fun c47 => ?_) (fun c47 => ?_)
            · skip
              refine zW.run 1 (pc' := 231) (ls' := [some (.ref 6), some (.int (Int32.ofInt n)), some (.int (Int32.ofInt w)), some (.ref P), some (.int (Int32.ofInt (k : Int))), some (.int (Int32.ofInt (s 11 k))), some (.int (Int32.ofInt v_3)), w14, w15]) (st' := [.int (Int32.ofInt 0)]) (σ' := (zN L X (zhi s) R G nc ns)) (fun n => rfl) ?_
              exfalso
              omega
            · skip
              exact J21 (some (.int (Int32.ofInt (s 11 k)))) (some (.int (Int32.ofInt v_3))) w14 w15
          · skip
            refine zW.run 1 (pc' := 211) (ls' := [some (.ref 6), some (.int (Int32.ofInt n)), some (.int (Int32.ofInt w)), some (.ref P), some (.int (Int32.ofInt (k : Int))), some (.int (Int32.ofInt (s 11 k))), some (.int (Int32.ofInt v_3)), w14, w15]) (st' := [.int (Int32.ofInt (k : Int))]) (σ' := (zN L X (zhi s) R G nc ns)) (fun n => rfl) ?_
            refine zW.jif_ne rfl (by omega) (fun c48 => ?_) (fun c48 => ?_)
            · skip
              exact J21 (some (.int (Int32.ofInt (s 11 k)))) (some (.int (Int32.ofInt v_3))) w14 w15
            · skip
              refine zW.run 1 (pc' := 216) (ls' := [some (.ref 6), some (.int (Int32.ofInt n)), some (.int (Int32.ofInt w)), some (.ref P), some (.int (Int32.ofInt (k : Int))), some (.int (Int32.ofInt (s 11 k))), some (.int (Int32.ofInt v_3)), w14, w15]) (st' := [.int (Int32.ofInt v_3)]) (σ' := (zN L X (zhi s) R G nc ns)) (fun n => rfl) ?_
              refine zW.jif_ne rfl (by omega) (fun c49 => ?_) (fun c49 => ?_)
              · skip
                refine zW.run 1 (pc' := 231) (ls' := [some (.ref 6), some (.int (Int32.ofInt n)), some (.int (Int32.ofInt w)), some (.ref P), some (.int (Int32.ofInt (k : Int))), some (.int (Int32.ofInt (s 11 k))), some (.int (Int32.ofInt v_3)), w14, w15]) (st' := [.int (Int32.ofInt 0)]) (σ' := (zN L X (zhi s) R G nc ns)) (fun n => rfl) ?_
                exfalso
                omega
              · skip
                exact J21 (some (.int (Int32.ofInt (s 11 k)))) (some (.int (Int32.ofInt v_3))) w14 w15
        · skip
          refine zW.run 2 (pc' := 200) (ls' := [some (.ref 6), some (.int (Int32.ofInt n)), some (.int (Int32.ofInt w)), some (.ref P), some (.int (Int32.ofInt (k : Int))), some (.int (Int32.ofInt (s 11 k))), some (.int (Int32.ofInt v_3)), w14, w15]) (st' := [.int (Int32.ofInt 1), .int (Int32.ofInt v_3)]) (σ' := (zN L X (zhi s) R G nc ns)) (fun n => rfl) ?_
          refine zW.jcmp_ne rfl (by omega) (fun c50 => ?_) (fun c50 => ?_)
          · skip
            refine zW.run 1 (pc' := 231) (ls' := [some (.ref 6), some (.int (Int32.ofInt n)), some (.int (Int32.ofInt w)), some (.ref P), some (.int (Int32.ofInt (k : Int))), some (.int (Int32.ofInt (s 11 k))), some (.int (Int32.ofInt v_3)), w14, w15]) (st' := [.int (Int32.ofInt 0)]) (σ' := (zN L X (zhi s) R G nc ns)) (fun n => rfl) ?_
            exfalso
            omega
          · skip
            refine zW.run 2 (pc' := 206) (ls' := [some (.ref 6), some (.int (Int32.ofInt n)), some (.int (Int32.ofInt w)), some (.ref P), some (.int (Int32.ofInt (k : Int))), some (.int (Int32.ofInt (s 11 k))), some (.int (Int32.ofInt v_3)), w14, w15]) (st' := [.int (Int32.ofInt 5), .int (Int32.ofInt (s 11 k))]) (σ' := (zN L X (zhi s) R G nc ns)) (fun n => rfl) ?_
            refine zW.jcmp_eq rfl (by omega) (fun c51 => ?_) (fun c51 => ?_)
            · skip
              refine zW.run 1 (pc' := 216) (ls' := [some (.ref 6), some (.int (Int32.ofInt n)), some (.int (Int32.ofInt w)), some (.ref P), some (.int (Int32.ofInt (k : Int))), some (.int (Int32.ofInt (s 11 k))), some (.int (Int32.ofInt v_3)), w14, w15]) (st' := [.int (Int32.ofInt v_3)]) (σ' := (zN L X (zhi s) R G nc ns)) (fun n => rfl) ?_
              refine zW.jif_ne rfl (by omega) (fun c52 => ?_) (fun c52 => ?_)
              · skip
                refine zW.run 1 (pc' := 231) (ls' := [some (.ref 6), some (.int (Int32.ofInt n)), some (.int (Int32.ofInt w)), some (.ref P), some (.int (Int32.ofInt (k : Int))), some (.int (Int32.ofInt (s 11 k))), some (.int (Int32.ofInt v_3)), w14, w15]) (st' := [.int (Int32.ofInt 0)]) (σ' := (zN L X (zhi s) R G nc ns)) (fun n => rfl) ?_
                exfalso
                omega
              · skip
                exact J21 (some (.int (Int32.ofInt (s 11 k)))) (some (.int (Int32.ofInt v_3))) w14 w15
            · skip
              refine zW.run 1 (pc' := 211) (ls' := [some (.ref 6), some (.int (Int32.ofInt n)), some (.int (Int32.ofInt w)), some (.ref P), some (.int (Int32.ofInt (k : Int))), some (.int (Int32.ofInt (s 11 k))), some (.int (Int32.ofInt v_3)), w14, w15]) (st' := [.int (Int32.ofInt (k : Int))]) (σ' := (zN L X (zhi s) R G nc ns)) (fun n => rfl) ?_
              refine zW.jif_ne rfl (by omega) (fun c53 => ?_) (fun c53 => ?_)
              · skip
                exact J21 (some (.int (Int32.ofInt (s 11 k)))) (some (.int (Int32.ofInt v_3))) w14 w15
              · skip
                refine zW.run 1 (pc' := 216) (ls' := [some (.ref 6), some (.int (Int32.ofInt n)), some (.int (Int32.ofInt w)), some (.ref P), some (.int (Int32.ofInt (k : Int))), some (.int (Int32.ofInt (s 11 k))), some (.int (Int32.ofInt v_3)), w14, w15]) (st' := [.int (Int32.ofInt v_3)]) (σ' := (zN L X (zhi s) R G nc ns)) (fun n => rfl) ?_
                refine zW.jif_ne rfl (by omega) (fun c54 => ?_) (fun c54 => ?_)
                · skip
                  refine zW.run 1 (pc' := 231) (ls' := [some (.ref 6), some (.int (Int32.ofInt n)), some (.int (Int32.ofInt w)), some (.ref P), some (.int (Int32.ofInt (k : Int))), some (.int (Int32.ofInt (s 11 k))), some (.int (Int32.ofInt v_3)), w14, w15]) (st' := [.int (Int32.ofInt 0)]) (σ' := (zN L X (zhi s) R G nc ns)) (fun n => rfl) ?_
                  exfalso
                  omega
                · skip
                  exact J21 (some (.int (Int32.ofInt (s 11 k)))) (some (.int (Int32.ofInt v_3))) w14 w15
    refine zW.run 3 (pc' := 110) (ls' := [some (.ref 6), some (.int (Int32.ofInt n)), some (.int (Int32.ofInt w)), some (.ref P), some (.int (Int32.ofInt (k : Int))), some (.int (Int32.ofInt (s 11 k))), some (.int (Int32.ofInt v_3)), some (.int (Int32.ofInt ((2 * (s 9 k)) + t_9))), w11]) (st' := [.int (Int32.ofInt 5), .int (Int32.ofInt (k : Int)), .ref 6]) (σ' := (zN L X (zhi s) R G nc ns)) (fun n => rfl) ?_
    refine zW.callV rfl (by decide) rfl rfl rfl rfl rfl (Nat.le_of_ble_eq_true rfl) ?_
    refine t_S_ofSquare_5z S V (x := (k : Int)) (by omega) (fun v_55 f56 f57 => ?_)
    show zW zro 165 113 [some (.ref 6), some (.int (Int32.ofInt n)), some (.int (Int32.ofInt w)), some (.ref P), some (.int (Int32.ofInt (k : Int))), some (.int (Int32.ofInt (s 11 k))), some (.int (Int32.ofInt v_3)), some (.int (Int32.ofInt ((2 * (s 9 k)) + t_9))), w11] [.int (Int32.ofInt v_55)] (zN L X (zhi s) R G nc ns) Q
    simp only [Int.toNat_natCast] at f56 f57
    refine zW.run 1 (pc' := 115) (ls' := [some (.ref 6), some (.int (Int32.ofInt n)), some (.int (Int32.ofInt w)), some (.ref P), some (.int (Int32.ofInt (k : Int))), some (.int (Int32.ofInt (s 11 k))), some (.int (Int32.ofInt v_3)), some (.int (Int32.ofInt ((2 * (s 9 k)) + t_9))), w11]) (st' := [.int (Int32.ofInt ((2 * (s 9 k)) + t_9)), .int (Int32.ofInt v_55)]) (σ' := (zN L X (zhi s) R G nc ns)) (fun n => rfl) ?_
    refine zW.jcmp_ne rfl (by omega) (fun c58 => ?_) (fun c58 => ?_)
    · skip
      refine zW.run 1 (pc' := 184) (ls' := [some (.ref 6), some (.int (Int32.ofInt n)), some (.int (Int32.ofInt w)), some (.ref P), some (.int (Int32.ofInt (k : Int))), some (.int (Int32.ofInt (s 11 k))), some (.int (Int32.ofInt v_3)), some (.int (Int32.ofInt ((2 * (s 9 k)) + t_9))), w11]) (st' := [.int (Int32.ofInt 0)]) (σ' := (zN L X (zhi s) R G nc ns)) (fun n => rfl) ?_
      exfalso
      omega
    · skip
      refine zW.run 3 (pc' := 123) (ls' := [some (.ref 6), some (.int (Int32.ofInt n)), some (.int (Int32.ofInt w)), some (.ref P), some (.int (Int32.ofInt (k : Int))), some (.int (Int32.ofInt (s 11 k))), some (.int (Int32.ofInt v_3)), some (.int (Int32.ofInt ((2 * (s 9 k)) + t_9))), w11]) (st' := [.int (Int32.ofInt 6), .int (Int32.ofInt (k : Int)), .ref 6]) (σ' := (zN L X (zhi s) R G nc ns)) (fun n => rfl) ?_
      refine zW.callV rfl (by decide) rfl rfl rfl rfl rfl (Nat.le_of_ble_eq_true rfl) ?_
      refine t_S_ofSquare_6z S V (x := (k : Int)) (by omega) (fun v_59 f60 f61 => ?_)
      show zW zro 165 126 [some (.ref 6), some (.int (Int32.ofInt n)), some (.int (Int32.ofInt w)), some (.ref P), some (.int (Int32.ofInt (k : Int))), some (.int (Int32.ofInt (s 11 k))), some (.int (Int32.ofInt v_3)), some (.int (Int32.ofInt ((2 * (s 9 k)) + t_9))), w11] [.int (Int32.ofInt v_59)] (zN L X (zhi s) R G nc ns) Q
      simp only [Int.toNat_natCast] at f60 f61
      refine zW.run 1 (pc' := 128) (ls' := [some (.ref 6), some (.int (Int32.ofInt n)), some (.int (Int32.ofInt w)), some (.ref P), some (.int (Int32.ofInt (k : Int))), some (.int (Int32.ofInt (s 11 k))), some (.int (Int32.ofInt v_3)), some (.int (Int32.ofInt ((2 * (s 9 k)) + t_9))), w11]) (st' := [.int (Int32.ofInt ((2 * (s 9 k)) + t_9)), .int (Int32.ofInt v_59)]) (σ' := (zN L X (zhi s) R G nc ns)) (fun n => rfl) ?_
      have J66 : ∀ (t_62 : Int) (w63 : Option Value) (w64 : Option Value), t_62 = zbo (s 11 k) → zW zro 165 140 [some (.ref 6), some (.int (Int32.ofInt n)), some (.int (Int32.ofInt w)), some (.ref P), some (.int (Int32.ofInt (k : Int))), some (.int (Int32.ofInt (s 11 k))), some (.int (Int32.ofInt v_3)), w63, w64] [.int (Int32.ofInt t_62), .int (Int32.ofInt ((2 * (s 9 k)) + t_9)), .int (Int32.ofInt v_59)] (zN L X (zhi s) R G nc ns) Q := by
        intro t_62 w63 w64 c65
        refine zW.jadd rfl ?_
        refine zW.jcmp_ne rfl (by omega) (fun c67 => ?_) (fun c67 => ?_)
        · skip
          refine zW.run 1 (pc' := 184) (ls' := [some (.ref 6), some (.int (Int32.ofInt n)), some (.int (Int32.ofInt w)), some (.ref P), some (.int (Int32.ofInt (k : Int))), some (.int (Int32.ofInt (s 11 k))), some (.int (Int32.ofInt v_3)), w63, w64]) (st' := [.int (Int32.ofInt 0)]) (σ' := (zN L X (zhi s) R G nc ns)) (fun n => rfl) ?_
          exfalso
          omega
        · skip
          refine zW.run 2 (pc' := 147) (ls' := [some (.ref 6), some (.int (Int32.ofInt n)), some (.int (Int32.ofInt w)), some (.ref P), some (.int (Int32.ofInt (k : Int))), some (.int (Int32.ofInt (s 11 k))), some (.int (Int32.ofInt v_3)), w63, w64]) (st' := [.int (Int32.ofInt 1), .int (Int32.ofInt (s 11 k))]) (σ' := (zN L X (zhi s) R G nc ns)) (fun n => rfl) ?_
          have J69 : ∀ (v68 : Int), (¬ (s 11 k) = 1 ∧ v68 = 0) ∨ ((s 11 k) = 1 ∧ v68 = 1) → zW zro 165 155 [some (.ref 6), some (.int (Int32.ofInt n)), some (.int (Int32.ofInt w)), some (.ref P), some (.int (Int32.ofInt (k : Int))), some (.int (Int32.ofInt (s 11 k))), some (.int (Int32.ofInt v_3)), w63, w64] [.int (Int32.ofInt v68)] (zN L X (zhi s) R G nc ns) Q := by
            intro v68 c70
            refine zW.run 3 (pc' := 159) (ls' := [some (.ref 6), some (.int (Int32.ofInt n)), some (.int (Int32.ofInt w)), some (.ref P), some (.int (Int32.ofInt (k : Int))), some (.int (Int32.ofInt (s 11 k))), some (.int (Int32.ofInt v_3)), w63, w64]) (st' := [.int (Int32.ofInt 3), .int (Int32.ofInt (k : Int)), .ref 6, .int (Int32.ofInt v68)]) (σ' := (zN L X (zhi s) R G nc ns)) (fun n => rfl) ?_
            refine zW.callV rfl (by decide) rfl rfl rfl rfl rfl (Nat.le_of_ble_eq_true rfl) ?_
            refine t_S_ofSquare_3z S V (x := (k : Int)) (by omega) (fun v_71 f72 f73 f74 => ?_)
            show zW zro 165 162 [some (.ref 6), some (.int (Int32.ofInt n)), some (.int (Int32.ofInt w)), some (.ref P), some (.int (Int32.ofInt (k : Int))), some (.int (Int32.ofInt (s 11 k))), some (.int (Int32.ofInt v_3)), w63, w64] [.int (Int32.ofInt v_71), .int (Int32.ofInt v68)] (zN L X (zhi s) R G nc ns) Q
            simp only [Int.toNat_natCast] at f73 f74
            have J76 : ∀ (v75 : Int), (v_71 ≤ 0 ∧ v75 = 0) ∨ (v_71 > 0 ∧ v75 = 1) → zW zro 165 170 [some (.ref 6), some (.int (Int32.ofInt n)), some (.int (Int32.ofInt w)), some (.ref P), some (.int (Int32.ofInt (k : Int))), some (.int (Int32.ofInt (s 11 k))), some (.int (Int32.ofInt v_3)), w63, w64] [.int (Int32.ofInt v75), .int (Int32.ofInt v68)] (zN L X (zhi s) R G nc ns) Q := by
              intro v75 c77
              refine zW.jcmp_ne rfl (by omega) (fun c78 => ?_) (fun c78 => ?_)
              · skip
                refine zW.run 1 (pc' := 184) (ls' := [some (.ref 6), some (.int (Int32.ofInt n)), some (.int (Int32.ofInt w)), some (.ref P), some (.int (Int32.ofInt (k : Int))), some (.int (Int32.ofInt (s 11 k))), some (.int (Int32.ofInt v_3)), w63, w64]) (st' := [.int (Int32.ofInt 0)]) (σ' := (zN L X (zhi s) R G nc ns)) (fun n => rfl) ?_
                exfalso
                omega
              · skip
                refine zW.run 3 (pc' := 177) (ls' := [some (.ref 6), some (.int (Int32.ofInt n)), some (.int (Int32.ofInt w)), some (.ref P), some (.int (Int32.ofInt (k : Int))), some (.int (Int32.ofInt (s 11 k))), some (.int (Int32.ofInt v_3)), w63, w64]) (st' := [.int (Int32.ofInt 4), .int (Int32.ofInt (k : Int)), .ref 6]) (σ' := (zN L X (zhi s) R G nc ns)) (fun n => rfl) ?_
                refine zW.callV rfl (by decide) rfl rfl rfl rfl rfl (Nat.le_of_ble_eq_true rfl) ?_
                refine t_S_ofSquare_4 S V (x := (k : Int)) (by omega) ?_
                show zW zro 165 180 [some (.ref 6), some (.int (Int32.ofInt n)), some (.int (Int32.ofInt w)), some (.ref P), some (.int (Int32.ofInt (k : Int))), some (.int (Int32.ofInt (s 11 k))), some (.int (Int32.ofInt v_3)), w63, w64] [.int (Int32.ofInt (s 13 k))] (zN L X (zhi s) R G nc ns) Q
                refine zW.jif_ge rfl (by omega) (fun c79 => ?_) (fun c79 => ?_)
                · skip
                  exact J16 w63 w64
                · skip
                  refine zW.run 1 (pc' := 184) (ls' := [some (.ref 6), some (.int (Int32.ofInt n)), some (.int (Int32.ofInt w)), some (.ref P), some (.int (Int32.ofInt (k : Int))), some (.int (Int32.ofInt (s 11 k))), some (.int (Int32.ofInt v_3)), w63, w64]) (st' := [.int (Int32.ofInt 0)]) (σ' := (zN L X (zhi s) R G nc ns)) (fun n => rfl) ?_
                  exfalso
                  omega
            refine zW.jif_le rfl (by omega) (fun c80 => ?_) (fun c80 => ?_)
            · skip
              refine zW.run 1 (pc' := 170) (ls' := [some (.ref 6), some (.int (Int32.ofInt n)), some (.int (Int32.ofInt w)), some (.ref P), some (.int (Int32.ofInt (k : Int))), some (.int (Int32.ofInt (s 11 k))), some (.int (Int32.ofInt v_3)), w63, w64]) (st' := [.int (Int32.ofInt 0), .int (Int32.ofInt v68)]) (σ' := (zN L X (zhi s) R G nc ns)) (fun n => rfl) ?_
              exact J76 0 (by omega)
            · skip
              refine zW.run 2 (pc' := 170) (ls' := [some (.ref 6), some (.int (Int32.ofInt n)), some (.int (Int32.ofInt w)), some (.ref P), some (.int (Int32.ofInt (k : Int))), some (.int (Int32.ofInt (s 11 k))), some (.int (Int32.ofInt v_3)), w63, w64]) (st' := [.int (Int32.ofInt 1), .int (Int32.ofInt v68)]) (σ' := (zN L X (zhi s) R G nc ns)) (fun n => rfl) ?_
              exact J76 1 (by omega)
          refine zW.jcmp_ne rfl (by omega) (fun c81 => ?_) (fun c81 => ?_)
          · skip
            refine zW.run 1 (pc' := 155) (ls' := [some (.ref 6), some (.int (Int32.ofInt n)), some (.int (Int32.ofInt w)), some (.ref P), some (.int (Int32.ofInt (k : Int))), some (.int (Int32.ofInt (s 11 k))), some (.int (Int32.ofInt v_3)), w63, w64]) (st' := [.int (Int32.ofInt 0)]) (σ' := (zN L X (zhi s) R G nc ns)) (fun n => rfl) ?_
            exact J69 0 (by omega)
          · skip
            refine zW.run 2 (pc' := 155) (ls' := [some (.ref 6), some (.int (Int32.ofInt n)), some (.int (Int32.ofInt w)), some (.ref P), some (.int (Int32.ofInt (k : Int))), some (.int (Int32.ofInt (s 11 k))), some (.int (Int32.ofInt v_3)), w63, w64]) (st' := [.int (Int32.ofInt 1)]) (σ' := (zN L X (zhi s) R G nc ns)) (fun n => rfl) ?_
            exact J69 1 (by omega)
      refine zW.run 2 (pc' := 131) (ls' := [some (.ref 6), some (.int (Int32.ofInt n)), some (.int (Int32.ofInt w)), some (.ref P), some (.int (Int32.ofInt (k : Int))), some (.int (Int32.ofInt (s 11 k))), some (.int (Int32.ofInt v_3)), some (.int (Int32.ofInt ((2 * (s 9 k)) + t_9))), w11]) (st' := [.int (Int32.ofInt 5), .int (Int32.ofInt (s 11 k)), .int (Int32.ofInt ((2 * (s 9 k)) + t_9)), .int (Int32.ofInt v_59)]) (σ' := (zN L X (zhi s) R G nc ns)) (fun n => rfl) ?_
      refine zW.jcmp_ne rfl (by omega) (fun c82 => ?_) (fun c82 => ?_)
      · skip
        refine zW.run 1 (pc' := 140) (ls' := [some (.ref 6), some (.int (Int32.ofInt n)), some (.int (Int32.ofInt w)), some (.ref P), some (.int (Int32.ofInt (k : Int))), some (.int (Int32.ofInt (s 11 k))), some (.int (Int32.ofInt v_3)), some (.int (Int32.ofInt ((2 * (s 9 k)) + t_9))), w11]) (st' := [.int (Int32.ofInt 1), .int (Int32.ofInt ((2 * (s 9 k)) + t_9)), .int (Int32.ofInt v_59)]) (σ' := (zN L X (zhi s) R G nc ns)) (fun n => rfl) ?_
        exact J66 1 (some (.int (Int32.ofInt ((2 * (s 9 k)) + t_9)))) w11 (by unfold zbo; omega)
      · skip
        refine zW.run 2 (pc' := 140) (ls' := [some (.ref 6), some (.int (Int32.ofInt n)), some (.int (Int32.ofInt w)), some (.ref P), some (.int (Int32.ofInt (k : Int))), some (.int (Int32.ofInt (s 11 k))), some (.int (Int32.ofInt v_3)), some (.int (Int32.ofInt ((2 * (s 9 k)) + t_9))), w11]) (st' := [.int (Int32.ofInt (-2)), .int (Int32.ofInt ((2 * (s 9 k)) + t_9)), .int (Int32.ofInt v_59)]) (σ' := (zN L X (zhi s) R G nc ns)) (fun n => rfl) ?_
        exact J66 (-2) (some (.int (Int32.ofInt ((2 * (s 9 k)) + t_9)))) w11 (by unfold zbo; omega)
  refine zW.run 2 (pc' := 44) (ls' := [some (.ref 6), some (.int (Int32.ofInt n)), some (.int (Int32.ofInt w)), some (.ref P), some (.int (Int32.ofInt (k : Int))), some (.int (Int32.ofInt (s 11 k))), some (.int (Int32.ofInt v_3)), j7, j8]) (st' := [.int (Int32.ofInt 1), .int (Int32.ofInt (s 11 k)), .int (Int32.ofInt (2 * (s 9 k)))]) (σ' := (zN L X (zhi s) R G nc ns)) (fun n => rfl) ?_
  refine zW.jcmp_ne rfl (by omega) (fun c83 => ?_) (fun c83 => ?_)
  · skip
    refine zW.run 2 (pc' := 55) (ls' := [some (.ref 6), some (.int (Int32.ofInt n)), some (.int (Int32.ofInt w)), some (.ref P), some (.int (Int32.ofInt (k : Int))), some (.int (Int32.ofInt (s 11 k))), some (.int (Int32.ofInt v_3)), j7, j8]) (st' := [.int (Int32.ofInt 3), .int (Int32.ofInt (s 11 k)), .int (Int32.ofInt (2 * (s 9 k)))]) (σ' := (zN L X (zhi s) R G nc ns)) (fun n => rfl) ?_
    refine zW.jcmp_ne rfl (by omega) (fun c84 => ?_) (fun c84 => ?_)
    · skip
      refine zW.run 2 (pc' := 66) (ls' := [some (.ref 6), some (.int (Int32.ofInt n)), some (.int (Int32.ofInt w)), some (.ref P), some (.int (Int32.ofInt (k : Int))), some (.int (Int32.ofInt (s 11 k))), some (.int (Int32.ofInt v_3)), j7, j8]) (st' := [.int (Int32.ofInt 6), .int (Int32.ofInt (s 11 k)), .int (Int32.ofInt (2 * (s 9 k)))]) (σ' := (zN L X (zhi s) R G nc ns)) (fun n => rfl) ?_
      refine zW.jcmp_eq rfl (by omega) (fun c85 => ?_) (fun c85 => ?_)
      · skip
        refine zW.run 2 (pc' := 103) (ls' := [some (.ref 6), some (.int (Int32.ofInt n)), some (.int (Int32.ofInt w)), some (.ref P), some (.int (Int32.ofInt (k : Int))), some (.int (Int32.ofInt (s 11 k))), some (.int (Int32.ofInt v_3)), j7, j8]) (st' := [.int (Int32.ofInt 2), .int (Int32.ofInt (2 * (s 9 k)))]) (σ' := (zN L X (zhi s) R G nc ns)) (fun n => rfl) ?_
        exact J13 2 j7 j8 (by unfold ztw; omega)
      · skip
        refine zW.run 2 (pc' := 72) (ls' := [some (.ref 6), some (.int (Int32.ofInt n)), some (.int (Int32.ofInt w)), some (.ref P), some (.int (Int32.ofInt (k : Int))), some (.int (Int32.ofInt (s 11 k))), some (.int (Int32.ofInt v_3)), j7, j8]) (st' := [.int (Int32.ofInt 4), .int (Int32.ofInt (s 11 k)), .int (Int32.ofInt (2 * (s 9 k)))]) (σ' := (zN L X (zhi s) R G nc ns)) (fun n => rfl) ?_
        refine zW.jcmp_ne rfl (by omega) (fun c86 => ?_) (fun c86 => ?_)
        · skip
          refine zW.run 2 (pc' := 82) (ls' := [some (.ref 6), some (.int (Int32.ofInt n)), some (.int (Int32.ofInt w)), some (.ref P), some (.int (Int32.ofInt (k : Int))), some (.int (Int32.ofInt (s 11 k))), some (.int (Int32.ofInt v_3)), j7, j8]) (st' := [.int (Int32.ofInt 2), .int (Int32.ofInt (s 11 k)), .int (Int32.ofInt (2 * (s 9 k)))]) (σ' := (zN L X (zhi s) R G nc ns)) (fun n => rfl) ?_
          refine zW.jcmp_ne rfl (by omega) (fun c87 => ?_) (fun c87 => ?_)
          · skip
            refine zW.run 2 (pc' := 94) (ls' := [some (.ref 6), some (.int (Int32.ofInt n)), some (.int (Int32.ofInt w)), some (.ref P), some (.int (Int32.ofInt (k : Int))), some (.int (Int32.ofInt (s 11 k))), some (.int (Int32.ofInt v_3)), j7, j8]) (st' := [.int (Int32.ofInt 7), .int (Int32.ofInt (s 11 k)), .int (Int32.ofInt (2 * (s 9 k)))]) (σ' := (zN L X (zhi s) R G nc ns)) (fun n => rfl) ?_
            refine zW.jcmp_ne rfl (by omega) (fun c88 => ?_) (fun c88 => ?_)
            · skip
              refine zW.run 1 (pc' := 103) (ls' := [some (.ref 6), some (.int (Int32.ofInt n)), some (.int (Int32.ofInt w)), some (.ref P), some (.int (Int32.ofInt (k : Int))), some (.int (Int32.ofInt (s 11 k))), some (.int (Int32.ofInt v_3)), j7, j8]) (st' := [.int (Int32.ofInt 0), .int (Int32.ofInt (2 * (s 9 k)))]) (σ' := (zN L X (zhi s) R G nc ns)) (fun n => rfl) ?_
              exact J13 0 j7 j8 (by unfold ztw; omega)
            · skip
              refine zW.run 2 (pc' := 103) (ls' := [some (.ref 6), some (.int (Int32.ofInt n)), some (.int (Int32.ofInt w)), some (.ref P), some (.int (Int32.ofInt (k : Int))), some (.int (Int32.ofInt (s 11 k))), some (.int (Int32.ofInt v_3)), j7, j8]) (st' := [.int (Int32.ofInt (-2)), .int (Int32.ofInt (2 * (s 9 k)))]) (σ' := (zN L X (zhi s) R G nc ns)) (fun n => rfl) ?_
              exact J13 (-2) j7 j8 (by unfold ztw; omega)
          · skip
            refine zW.run 2 (pc' := 103) (ls' := [some (.ref 6), some (.int (Int32.ofInt n)), some (.int (Int32.ofInt w)), some (.ref P), some (.int (Int32.ofInt (k : Int))), some (.int (Int32.ofInt (s 11 k))), some (.int (Int32.ofInt v_3)), j7, j8]) (st' := [.int (Int32.ofInt (-4)), .int (Int32.ofInt (2 * (s 9 k)))]) (σ' := (zN L X (zhi s) R G nc ns)) (fun n => rfl) ?_
            exact J13 (-4) j7 j8 (by unfold ztw; omega)
        · skip
          refine zW.run 2 (pc' := 103) (ls' := [some (.ref 6), some (.int (Int32.ofInt n)), some (.int (Int32.ofInt w)), some (.ref P), some (.int (Int32.ofInt (k : Int))), some (.int (Int32.ofInt (s 11 k))), some (.int (Int32.ofInt v_3)), j7, j8]) (st' := [.int (Int32.ofInt 2), .int (Int32.ofInt (2 * (s 9 k)))]) (σ' := (zN L X (zhi s) R G nc ns)) (fun n => rfl) ?_
          exact J13 2 j7 j8 (by unfold ztw; omega)
    · skip
      refine zW.run 2 (pc' := 103) (ls' := [some (.ref 6), some (.int (Int32.ofInt n)), some (.int (Int32.ofInt w)), some (.ref P), some (.int (Int32.ofInt (k : Int))), some (.int (Int32.ofInt (s 11 k))), some (.int (Int32.ofInt v_3)), j7, j8]) (st' := [.int (Int32.ofInt 4), .int (Int32.ofInt (2 * (s 9 k)))]) (σ' := (zN L X (zhi s) R G nc ns)) (fun n => rfl) ?_
      exact J13 4 j7 j8 (by unfold ztw; omega)
  · skip
    refine zW.run 2 (pc' := 103) (ls' := [some (.ref 6), some (.int (Int32.ofInt n)), some (.int (Int32.ofInt w)), some (.ref P), some (.int (Int32.ofInt (k : Int))), some (.int (Int32.ofInt (s 11 k))), some (.int (Int32.ofInt v_3)), j7, j8]) (st' := [.int (Int32.ofInt 6), .int (Int32.ofInt (2 * (s 9 k)))]) (σ' := (zN L X (zhi s) R G nc ns)) (fun n => rfl) ?_
    exact J13 6 j7 j8 (by unfold ztw; omega)
end ZB
