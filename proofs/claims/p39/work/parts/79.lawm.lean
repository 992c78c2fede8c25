/-! the law's own methods (printed by program) -/
section ZB
variable {ro : Nat → Int32 → zS → Option (zO × zS)} {L : Nat} {X : zK} {s : zJ} {R : Nat → Nat → Option Nat} {G : Nat → Nat → Int64} {nc ns : Nat} {Q : zO → zS → Prop} {g : Nat → Int} {U F T B ph : Int}
theorem zpm {a b : Int} (h : 0 ≤ a ∧ a ≤ 12) (k : b = 1 ∨ b = -1) : -12 ≤ a * b ∧ a * b ≤ 12 := by
  rcases k with k | k <;> rw [k] <;> omega
set_option maxRecDepth 20000 in
set_option maxHeartbeats 4000000 in
theorem t_S_digest (S : zSR R) (V : zV g U F T B ph s)   (hQ0 : ∀ (x : Int64), Q (.inl (some (.long x))) (zN L X (zhi s) R G nc ns)) : zW ro 6 0 (zfst [.ref 6] 11) [] (zN L X (zhi s) R G nc ns) Q := by
  show zW ro 6 0 [some (.ref 6), none, none, none, none, none, none, none, none, none, none] [] (zN L X (zhi s) R G nc ns) Q
  have f1 := zA_geo (zV_zA V)
  have hB0 := zV_B V
  refine zW.run 4 (pc' := 6) (ls' := [some (.ref 6), some (.long (Int64.ofNat 58263)), none, some (.int (Int32.ofInt 0)), none, none, none, none, none, none, none]) (st' := []) (σ' := (zN L X (zhi s) R G nc ns)) (fun n => rfl) ?_
  have J12 : ∀ m : Nat, ∀ (i_2 : Nat) (x_3 : Int64) (w4 : Option Value) (w5 : Option Value) (w6 : Option Value) (w7 : Option Value) (w8 : Option Value) (w9 : Option Value) (w10 : Option Value), i_2 ≤ 13 → 14 - i_2 < m → zW ro 6 6 [some (.ref 6), some (.long x_3), none, some (.int (Int32.ofInt (i_2 : Int))), w4, w5, w6, w7, w8, w9, w10] [] (zN L X (zhi s) R G nc ns) Q := by
    intro m
    induction m with
    | zero => intros; omega
    | succ m ih13 =>
      intro i_2 x_3 w4 w5 w6 w7 w8 w9 w10 c11 hm14
      refine zW.run 2 (pc' := 9) (ls' := [some (.ref 6), some (.long x_3), none, some (.int (Int32.ofInt (i_2 : Int))), w4, w5, w6, w7, w8, w9, w10]) (st' := [.int (Int32.ofInt 12), .int (Int32.ofInt (i_2 : Int))]) (σ' := (zN L X (zhi s) R G nc ns)) (fun n => rfl) ?_
      refine zW.jcmp_gt rfl (by omega) (fun c15 => ?_) (fun c15 => ?_)
      · skip
        refine zW.run 2 (pc' := 33) (ls' := [some (.ref 6), some (.long x_3), none, some (.int (Int32.ofInt 0)), w4, w5, w6, w7, w8, w9, w10]) (st' := []) (σ' := (zN L X (zhi s) R G nc ns)) (fun n => rfl) ?_
        have J26 : ∀ m : Nat, ∀ (i_16 : Nat) (x_17 : Int64) (w18 : Option Value) (w19 : Option Value) (w20 : Option Value) (w21 : Option Value) (w22 : Option Value) (w23 : Option Value) (w24 : Option Value), i_16 ≤ 2 → 3 - i_16 < m → zW ro 6 33 [some (.ref 6), some (.long x_17), none, some (.int (Int32.ofInt (i_16 : Int))), w18, w19, w20, w21, w22, w23, w24] [] (zN L X (zhi s) R G nc ns) Q := by
          intro m
          induction m with
          | zero => intros; omega
          | succ m ih27 =>
            intro i_16 x_17 w18 w19 w20 w21 w22 w23 w24 c25 hm28
            refine zW.run 2 (pc' := 35) (ls' := [some (.ref 6), some (.long x_17), none, some (.int (Int32.ofInt (i_16 : Int))), w18, w19, w20, w21, w22, w23, w24]) (st' := [.int (Int32.ofInt 1), .int (Int32.ofInt (i_16 : Int))]) (σ' := (zN L X (zhi s) R G nc ns)) (fun n => rfl) ?_
            refine zW.jcmp_gt rfl (by omega) (fun c29 => ?_) (fun c29 => ?_)
            · skip
              refine zW.run 2 (pc' := 77) (ls' := [some (.ref 6), some (.long x_17), none, some (.int (Int32.ofInt 0)), w18, w19, w20, w21, w22, w23, w24]) (st' := []) (σ' := (zN L X (zhi s) R G nc ns)) (fun n => rfl) ?_
              have J40 : ∀ m : Nat, ∀ (k_30 : Nat) (x_31 : Int64) (w32 : Option Value) (w33 : Option Value) (w34 : Option Value) (w35 : Option Value) (w36 : Option Value) (w37 : Option Value) (w38 : Option Value), (k_30 : Int) ≤ g 2 → 145 - k_30 < m → zW ro 6 77 [some (.ref 6), some (.long x_31), none, some (.int (Int32.ofInt (k_30 : Int))), w32, w33, w34, w35, w36, w37, w38] [] (zN L X (zhi s) R G nc ns) Q := by
                intro m
                induction m with
                | zero => intros; omega
                | succ m ih41 =>
                  intro k_30 x_31 w32 w33 w34 w35 w36 w37 w38 c39 hm42
                  refine zW.run 2 (pc' := 79) (ls' := [some (.ref 6), some (.long x_31), none, some (.int (Int32.ofInt (k_30 : Int))), w32, w33, w34, w35, w36, w37, w38]) (st' := [.ref 6, .int (Int32.ofInt (k_30 : Int))]) (σ' := (zN L X (zhi s) R G nc ns)) (fun n => rfl) ?_
                  refine zW.getf (v := .ref 7) rfl rfl (zr_6_0 S) ?_
                  refine zW.getf (v := .ref 8) rfl rfl (zr_7_0 S) ?_
                  refine zW.run 1 (pc' := 88) (ls' := [some (.ref 6), some (.long x_31), none, some (.int (Int32.ofInt (k_30 : Int))), w32, w33, w34, w35, w36, w37, w38]) (st' := [.int (Int32.ofInt (s 8 11)), .int (Int32.ofInt (k_30 : Int))]) (σ' := (zN L X (zhi s) R G nc ns)) (fun n => rfl) ?_
                  refine zW.jcmp_ge rfl (by omega) (fun c43 => ?_) (fun c43 => ?_)
                  · skip
                    refine zW.run 1 (pc' := 146) (ls' := [some (.ref 6), some (.long x_31), none, some (.int (Int32.ofInt (k_30 : Int))), w32, w33, w34, w35, w36, w37, w38]) (st' := [.ref 6]) (σ' := (zN L X (zhi s) R G nc ns)) (fun n => rfl) ?_
                    refine zW.getf (v := .ref 7) rfl rfl (zr_6_0 S) ?_
                    refine zW.getf (v := .ref 18) rfl rfl (zr_7_1 S) ?_
                    refine zW.run 2 (pc' := 154) (ls' := [some (.ref 6), some (.long x_31), none, some (.ref 18), w32, w33, w34, w35, w36, w37, w38]) (st' := [.ref 18]) (σ' := (zN L X (zhi s) R G nc ns)) (fun n => rfl) ?_
                    refine zW.alen rfl rfl (by decide) ?_
                    show zW ro 6 155 [some (.ref 6), some (.long x_31), none, some (.ref 18), w32, w33, w34, w35, w36, w37, w38] [.int (Int32.ofInt 16)] (zN L X (zhi s) R G nc ns) Q
                    refine zW.run 3 (pc' := 160) (ls' := [some (.ref 6), some (.long x_31), none, some (.ref 18), some (.int (Int32.ofInt 16)), some (.int (Int32.ofInt 0)), w34, w35, w36, w37, w38]) (st' := []) (σ' := (zN L X (zhi s) R G nc ns)) (fun n => rfl) ?_
                    have J52 : ∀ m : Nat, ∀ (i_44 : Nat) (x_45 : Int64) (w46 : Option Value) (w47 : Option Value) (w48 : Option Value) (w49 : Option Value) (w50 : Option Value), i_44 ≤ 16 → 17 - i_44 < m → zW ro 6 160 [some (.ref 6), some (.long x_45), none, some (.ref 18), some (.int (Int32.ofInt 16)), some (.int (Int32.ofInt (i_44 : Int))), w46, w47, w48, w49, w50] [] (zN L X (zhi s) R G nc ns) Q := by
                      intro m
                      induction m with
                      | zero => intros; omega
                      | succ m ih53 =>
                        intro i_44 x_45 w46 w47 w48 w49 w50 c51 hm54
                        refine zW.run 2 (pc' := 164) (ls' := [some (.ref 6), some (.long x_45), none, some (.ref 18), some (.int (Int32.ofInt 16)), some (.int (Int32.ofInt (i_44 : Int))), w46, w47, w48, w49, w50]) (st' := [.int (Int32.ofInt 16), .int (Int32.ofInt (i_44 : Int))]) (σ' := (zN L X (zhi s) R G nc ns)) (fun n => rfl) ?_
                        refine zW.jcmp_ge rfl (by omega) (fun c55 => ?_) (fun c55 => ?_)
                        · skip
                          refine zW.run 1 (pc' := 241) (ls' := [some (.ref 6), some (.long x_45), none, some (.ref 18), some (.int (Int32.ofInt 16)), some (.int (Int32.ofInt (i_44 : Int))), w46, w47, w48, w49, w50]) (st' := [.ref 6]) (σ' := (zN L X (zhi s) R G nc ns)) (fun n => rfl) ?_
                          refine zW.getf (v := .ref 7) rfl rfl (zr_6_0 S) ?_
                          refine zW.getf (v := .ref 19) rfl rfl (zr_7_2 S) ?_
                          refine zW.run 2 (pc' := 249) (ls' := [some (.ref 6), some (.long x_45), none, some (.ref 19), some (.int (Int32.ofInt 16)), some (.int (Int32.ofInt (i_44 : Int))), w46, w47, w48, w49, w50]) (st' := [.ref 19]) (σ' := (zN L X (zhi s) R G nc ns)) (fun n => rfl) ?_
                          refine zW.alen rfl rfl (by decide) ?_
                          show zW ro 6 250 [some (.ref 6), some (.long x_45), none, some (.ref 19), some (.int (Int32.ofInt 16)), some (.int (Int32.ofInt (i_44 : Int))), w46, w47, w48, w49, w50] [.int (Int32.ofInt 12)] (zN L X (zhi s) R G nc ns) Q
                          refine zW.run 3 (pc' := 255) (ls' := [some (.ref 6), some (.long x_45), none, some (.ref 19), some (.int (Int32.ofInt 12)), some (.int (Int32.ofInt 0)), w46, w47, w48, w49, w50]) (st' := []) (σ' := (zN L X (zhi s) R G nc ns)) (fun n => rfl) ?_
                          have J64 : ∀ m : Nat, ∀ (i_56 : Nat) (x_57 : Int64) (w58 : Option Value) (w59 : Option Value) (w60 : Option Value) (w61 : Option Value) (w62 : Option Value), i_56 ≤ 12 → 13 - i_56 < m → zW ro 6 255 [some (.ref 6), some (.long x_57), none, some (.ref 19), some (.int (Int32.ofInt 12)), some (.int (Int32.ofInt (i_56 : Int))), w58, w59, w60, w61, w62] [] (zN L X (zhi s) R G nc ns) Q := by
                            intro m
                            induction m with
                            | zero => intros; omega
                            | succ m ih65 =>
                              intro i_56 x_57 w58 w59 w60 w61 w62 c63 hm66
                              refine zW.run 2 (pc' := 259) (ls' := [some (.ref 6), some (.long x_57), none, some (.ref 19), some (.int (Int32.ofInt 12)), some (.int (Int32.ofInt (i_56 : Int))), w58, w59, w60, w61, w62]) (st' := [.int (Int32.ofInt 12), .int (Int32.ofInt (i_56 : Int))]) (σ' := (zN L X (zhi s) R G nc ns)) (fun n => rfl) ?_
                              refine zW.jcmp_ge rfl (by omega) (fun c67 => ?_) (fun c67 => ?_)
                              · skip
                                refine zW.run 1 (pc' := 336) (ls' := [some (.ref 6), some (.long x_57), none, some (.ref 19), some (.int (Int32.ofInt 12)), some (.int (Int32.ofInt (i_56 : Int))), w58, w59, w60, w61, w62]) (st' := [.ref 6]) (σ' := (zN L X (zhi s) R G nc ns)) (fun n => rfl) ?_
                                refine zW.getf (v := .ref 7) rfl rfl (zr_6_0 S) ?_
                                refine zW.getf (v := .ref 20) rfl rfl (zr_7_3 S) ?_
                                refine zW.run 2 (pc' := 344) (ls' := [some (.ref 6), some (.long x_57), none, some (.ref 20), some (.int (Int32.ofInt 12)), some (.int (Int32.ofInt (i_56 : Int))), w58, w59, w60, w61, w62]) (st' := [.ref 20]) (σ' := (zN L X (zhi s) R G nc ns)) (fun n => rfl) ?_
                                refine zW.alen rfl rfl (by decide) ?_
                                show zW ro 6 345 [some (.ref 6), some (.long x_57), none, some (.ref 20), some (.int (Int32.ofInt 12)), some (.int (Int32.ofInt (i_56 : Int))), w58, w59, w60, w61, w62] [.int (Int32.ofInt 6)] (zN L X (zhi s) R G nc ns) Q
                                refine zW.run 3 (pc' := 350) (ls' := [some (.ref 6), some (.long x_57), none, some (.ref 20), some (.int (Int32.ofInt 6)), some (.int (Int32.ofInt 0)), w58, w59, w60, w61, w62]) (st' := []) (σ' := (zN L X (zhi s) R G nc ns)) (fun n => rfl) ?_
                                have J76 : ∀ m : Nat, ∀ (i_68 : Nat) (x_69 : Int64) (w70 : Option Value) (w71 : Option Value) (w72 : Option Value) (w73 : Option Value) (w74 : Option Value), i_68 ≤ 6 → 7 - i_68 < m → zW ro 6 350 [some (.ref 6), some (.long x_69), none, some (.ref 20), some (.int (Int32.ofInt 6)), some (.int (Int32.ofInt (i_68 : Int))), w70, w71, w72, w73, w74] [] (zN L X (zhi s) R G nc ns) Q := by
                                  intro m
                                  induction m with
                                  | zero => intros; omega
                                  | succ m ih77 =>
                                    intro i_68 x_69 w70 w71 w72 w73 w74 c75 hm78
                                    refine zW.run 2 (pc' := 354) (ls' := [some (.ref 6), some (.long x_69), none, some (.ref 20), some (.int (Int32.ofInt 6)), some (.int (Int32.ofInt (i_68 : Int))), w70, w71, w72, w73, w74]) (st' := [.int (Int32.ofInt 6), .int (Int32.ofInt (i_68 : Int))]) (σ' := (zN L X (zhi s) R G nc ns)) (fun n => rfl) ?_
                                    refine zW.jcmp_ge rfl (by omega) (fun c79 => ?_) (fun c79 => ?_)
                                    · skip
                                      refine zW.run 4 (pc' := 436) (ls' := [some (.ref 6), some (.long x_69), none, some (.ref 20), some (.int (Int32.ofInt 6)), some (.int (Int32.ofInt (i_68 : Int))), w70, w71, w72, w73, w74]) (st' := [.ref 6, .long (x_69 * (Int64.ofNat 31))]) (σ' := (zN L X (zhi s) R G nc ns)) (fun n => rfl) ?_
                                      refine zW.getf (v := .ref 7) rfl rfl (zr_6_0 S) ?_
                                      refine zW.callV rfl (by decide) rfl rfl rfl rfl rfl (Nat.le_of_ble_eq_true rfl) ?_
                                      refine t_Siege_isAllSound S V ?_
                                      show zW ro 6 442 [some (.ref 6), some (.long x_69), none, some (.ref 20), some (.int (Int32.ofInt 6)), some (.int (Int32.ofInt (i_68 : Int))), w70, w71, w72, w73, w74] [.int (Int32.ofInt 1), .long (x_69 * (Int64.ofNat 31))] (zN L X (zhi s) R G nc ns) Q
                                      refine zW.run 5 (pc' := 452) (ls' := [some (.ref 6), some (.long x_69), none, some (.ref 20), some (.int (Int32.ofInt 6)), some (.int (Int32.ofInt (i_68 : Int))), w70, w71, w72, w73, w74]) (st' := [.long ((x_69 * (Int64.ofNat 31)) + ((Int32.ofInt 1)).toInt64)]) (σ' := (zN L X (zhi s) R G nc ns)) (fun n => rfl) ?_
                                      exact zW.lret rfl (hQ0 ((x_69 * (Int64.ofNat 31)) + ((Int32.ofInt 1)).toInt64))
                                    · skip
                                      refine zW.run 2 (pc' := 360) (ls' := [some (.ref 6), some (.long x_69), none, some (.ref 20), some (.int (Int32.ofInt 6)), some (.int (Int32.ofInt (i_68 : Int))), w70, w71, w72, w73, w74]) (st' := [.int (Int32.ofInt (i_68 : Int)), .ref 20]) (σ' := (zN L X (zhi s) R G nc ns)) (fun n => rfl) ?_
                                      refine zW.jaald (n := 6) (v := .ref (54 + 2 * i_68)) rfl rfl (by decide) (by decide) (by omega) (zr_min S (by omega)) ?_
                                      refine zW.run 4 (pc' := 370) (ls' := [some (.ref 6), some (.long x_69), none, some (.ref 20), some (.int (Int32.ofInt 6)), some (.int (Int32.ofInt (i_68 : Int))), some (.ref (54 + 2 * i_68)), some (.ref 4), w72, w73, w74]) (st' := [.ref 4]) (σ' := (zN L X (zhi s) R G nc ns)) (fun n => rfl) ?_
                                      refine zW.alen rfl rfl (by decide) ?_
                                      show zW ro 6 371 [some (.ref 6), some (.long x_69), none, some (.ref 20), some (.int (Int32.ofInt 6)), some (.int (Int32.ofInt (i_68 : Int))), some (.ref (54 + 2 * i_68)), some (.ref 4), w72, w73, w74] [.int (Int32.ofInt 6)] (zN L X (zhi s) R G nc ns) Q
                                      refine zW.run 3 (pc' := 376) (ls' := [some (.ref 6), some (.long x_69), none, some (.ref 20), some (.int (Int32.ofInt 6)), some (.int (Int32.ofInt (i_68 : Int))), some (.ref (54 + 2 * i_68)), some (.ref 4), some (.int (Int32.ofInt 6)), some (.int (Int32.ofInt 0)), w74]) (st' := []) (σ' := (zN L X (zhi s) R G nc ns)) (fun n => rfl) ?_
                                      have J84 : ∀ m : Nat, ∀ (i_80 : Nat) (x_81 : Int64) (w82 : Option Value), i_80 ≤ 6 → 7 - i_80 < m → zW ro 6 376 [some (.ref 6), some (.long x_81), none, some (.ref 20), some (.int (Int32.ofInt 6)), some (.int (Int32.ofInt (i_68 : Int))), some (.ref (54 + 2 * i_68)), some (.ref 4), some (.int (Int32.ofInt 6)), some (.int (Int32.ofInt (i_80 : Int))), w82] [] (zN L X (zhi s) R G nc ns) Q := by
                                        intro m
                                        induction m with
                                        | zero => intros; omega
                                        | succ m ih85 =>
                                          intro i_80 x_81 w82 c83 hm86
                                          refine zW.run 2 (pc' := 380) (ls' := [some (.ref 6), some (.long x_81), none, some (.ref 20), some (.int (Int32.ofInt 6)), some (.int (Int32.ofInt (i_68 : Int))), some (.ref (54 + 2 * i_68)), some (.ref 4), some (.int (Int32.ofInt 6)), some (.int (Int32.ofInt (i_80 : Int))), w82]) (st' := [.int (Int32.ofInt 6), .int (Int32.ofInt (i_80 : Int))]) (σ' := (zN L X (zhi s) R G nc ns)) (fun n => rfl) ?_
                                          refine zW.jcmp_ge rfl (by omega) (fun c87 => ?_) (fun c87 => ?_)
                                          · skip
                                            refine zW.jinc (ls' := [some (.ref 6), some (.long x_81), none, some (.ref 20), some (.int (Int32.ofInt 6)), some (.int (Int32.ofInt ((i_68 : Int) + 1))), some (.ref (54 + 2 * i_68)), some (.ref 4), some (.int (Int32.ofInt 6)), some (.int (Int32.ofInt (i_80 : Int))), w82]) rfl (Nat.le_of_ble_eq_true rfl) rfl rfl ?_
                                            refine zW.run 1 (pc' := 350) (ls' := [some (.ref 6), some (.long x_81), none, some (.ref 20), some (.int (Int32.ofInt 6)), some (.int (Int32.ofInt ((i_68 : Int) + 1))), some (.ref (54 + 2 * i_68)), some (.ref 4), some (.int (Int32.ofInt 6)), some (.int (Int32.ofInt (i_80 : Int))), w82]) (st' := []) (σ' := (zN L X (zhi s) R G nc ns)) (fun n => rfl) ?_
                                            exact ih77 (i_68 + 1) x_81 (some (.ref (54 + 2 * i_68))) (some (.ref 4)) (some (.int (Int32.ofInt 6))) (some (.int (Int32.ofInt (i_80 : Int)))) w82 (by omega) (by omega)
                                          · skip
                                            refine zW.run 2 (pc' := 387) (ls' := [some (.ref 6), some (.long x_81), none, some (.ref 20), some (.int (Int32.ofInt 6)), some (.int (Int32.ofInt (i_68 : Int))), some (.ref (54 + 2 * i_68)), some (.ref 4), some (.int (Int32.ofInt 6)), some (.int (Int32.ofInt (i_80 : Int))), w82]) (st' := [.int (Int32.ofInt (i_80 : Int)), .ref 4]) (σ' := (zN L X (zhi s) R G nc ns)) (fun n => rfl) ?_
                                            refine zW.jals (n := 6) (v := (s 4 i_80)) rfl rfl (by decide) (by omega) rfl ?_
                                            have f88 := zA_st (zV_zA V) (p := 4) (k := i_80) (by omega) (by omega)
                                            refine zW.run 2 (pc' := 392) (ls' := [some (.ref 6), some (.long x_81), none, some (.ref 20), some (.int (Int32.ofInt 6)), some (.int (Int32.ofInt (i_68 : Int))), some (.ref (54 + 2 * i_68)), some (.ref 4), some (.int (Int32.ofInt 6)), some (.int (Int32.ofInt (i_80 : Int))), some (.int (Int32.ofInt (s 4 i_80)))]) (st' := [.ref (54 + 2 * i_68)]) (σ' := (zN L X (zhi s) R G nc ns)) (fun n => rfl) ?_
                                            refine zW.callV rfl (by decide) rfl rfl rfl rfl (zk_min (by omega)) (Nat.le_of_ble_eq_true rfl) ?_
                                            refine t_Mine_isBegun S V (i := i_68) (by omega) (fun f89 => ?_) (fun f90 => ?_)
                                            · skip
                                              show zW ro 6 395 [some (.ref 6), some (.long x_81), none, some (.ref 20), some (.int (Int32.ofInt 6)), some (.int (Int32.ofInt (i_68 : Int))), some (.ref (54 + 2 * i_68)), some (.ref 4), some (.int (Int32.ofInt 6)), some (.int (Int32.ofInt (i_80 : Int))), some (.int (Int32.ofInt (s 4 i_80)))] [.int (Int32.ofInt 1)] (zN L X (zhi s) R G nc ns) Q
                                              refine zW.run 7 (pc' := 408) (ls' := [some (.ref 6), some (.long x_81), none, some (.ref 20), some (.int (Int32.ofInt 6)), some (.int (Int32.ofInt (i_68 : Int))), some (.ref (54 + 2 * i_68)), some (.ref 4), some (.int (Int32.ofInt 6)), some (.int (Int32.ofInt (i_80 : Int))), some (.int (Int32.ofInt (s 4 i_80)))]) (st' := [.int (Int32.ofInt (s 4 i_80)), .ref (54 + 2 * i_68), .ref 6, .long (x_81 * (Int64.ofNat 31))]) (σ' := (zN L X (zhi s) R G nc ns)) (fun n => rfl) ?_
                                              refine zW.callV rfl (by decide) rfl rfl rfl rfl rfl (Nat.le_of_ble_eq_true rfl) ?_
                                              refine t_S_mineFact S V (i := i_68) (d := (s 4 i_80)) (by omega) (by omega) (fun v_91 => ?_)
                                              show zW ro 6 411 [some (.ref 6), some (.long x_81), none, some (.ref 20), some (.int (Int32.ofInt 6)), some (.int (Int32.ofInt (i_68 : Int))), some (.ref (54 + 2 * i_68)), some (.ref 4), some (.int (Int32.ofInt 6)), some (.int (Int32.ofInt (i_80 : Int))), some (.int (Int32.ofInt (s 4 i_80)))] [.int (Int32.ofInt v_91), .long (x_81 * (Int64.ofNat 31))] (zN L X (zhi s) R G nc ns) Q
                                              refine zW.run 4 (pc' := 418) (ls' := [some (.ref 6), some (.long ((x_81 * (Int64.ofNat 31)) + ((Int32.ofInt v_91)).toInt64)), none, some (.ref 20), some (.int (Int32.ofInt 6)), some (.int (Int32.ofInt (i_68 : Int))), some (.ref (54 + 2 * i_68)), some (.ref 4), some (.int (Int32.ofInt 6)), some (.int (Int32.ofInt (i_80 : Int))), some (.int (Int32.ofInt (s 4 i_80)))]) (st' := []) (σ' := (zN L X (zhi s) R G nc ns)) (fun n => rfl) ?_
                                              refine zW.jinc (ls' := [some (.ref 6), some (.long ((x_81 * (Int64.ofNat 31)) + ((Int32.ofInt v_91)).toInt64)), none, some (.ref 20), some (.int (Int32.ofInt 6)), some (.int (Int32.ofInt (i_68 : Int))), some (.ref (54 + 2 * i_68)), some (.ref 4), some (.int (Int32.ofInt 6)), some (.int (Int32.ofInt ((i_80 : Int) + 1))), some (.int (Int32.ofInt (s 4 i_80)))]) rfl (Nat.le_of_ble_eq_true rfl) rfl rfl ?_
                                              refine zW.run 1 (pc' := 376) (ls' := [some (.ref 6), some (.long ((x_81 * (Int64.ofNat 31)) + ((Int32.ofInt v_91)).toInt64)), none, some (.ref 20), some (.int (Int32.ofInt 6)), some (.int (Int32.ofInt (i_68 : Int))), some (.ref (54 + 2 * i_68)), some (.ref 4), some (.int (Int32.ofInt 6)), some (.int (Int32.ofInt ((i_80 : Int) + 1))), some (.int (Int32.ofInt (s 4 i_80)))]) (st' := []) (σ' := (zN L X (zhi s) R G nc ns)) (fun n => rfl) ?_
                                              exact ih85 (i_80 + 1) ((x_81 * (Int64.ofNat 31)) + ((Int32.ofInt v_91)).toInt64) (some (.int (Int32.ofInt (s 4 i_80)))) (by omega) (by omega)
                                            · skip
                                              show zW ro 6 395 [some (.ref 6), some (.long x_81), none, some (.ref 20), some (.int (Int32.ofInt 6)), some (.int (Int32.ofInt (i_68 : Int))), some (.ref (54 + 2 * i_68)), some (.ref 4), some (.int (Int32.ofInt 6)), some (.int (Int32.ofInt (i_80 : Int))), some (.int (Int32.ofInt (s 4 i_80)))] [.int (Int32.ofInt 0)] (zN L X (zhi s) R G nc ns) Q
                                              refine zW.run 3 (pc' := 418) (ls' := [some (.ref 6), some (.long x_81), none, some (.ref 20), some (.int (Int32.ofInt 6)), some (.int (Int32.ofInt (i_68 : Int))), some (.ref (54 + 2 * i_68)), some (.ref 4), some (.int (Int32.ofInt 6)), some (.int (Int32.ofInt (i_80 : Int))), some (.int (Int32.ofInt (s 4 i_80)))]) (st' := []) (σ' := (zN L X (zhi s) R G nc ns)) (fun n => rfl) ?_
                                              refine zW.jinc (ls' := [some (.ref 6), some (.long x_81), none, some (.ref 20), some (.int (Int32.ofInt 6)), some (.int (Int32.ofInt (i_68 : Int))), some (.ref (54 + 2 * i_68)), some (.ref 4), some (.int (Int32.ofInt 6)), some (.int (Int32.ofInt ((i_80 : Int) + 1))), some (.int (Int32.ofInt (s 4 i_80)))]) rfl (Nat.le_of_ble_eq_true rfl) rfl rfl ?_
                                              refine zW.run 1 (pc' := 376) (ls' := [some (.ref 6), some (.long x_81), none, some (.ref 20), some (.int (Int32.ofInt 6)), some (.int (Int32.ofInt (i_68 : Int))), some (.ref (54 + 2 * i_68)), some (.ref 4), some (.int (Int32.ofInt 6)), some (.int (Int32.ofInt ((i_80 : Int) + 1))), some (.int (Int32.ofInt (s 4 i_80)))]) (st' := []) (σ' := (zN L X (zhi s) R G nc ns)) (fun n => rfl) ?_
                                              exact ih85 (i_80 + 1) x_81 (some (.int (Int32.ofInt (s 4 i_80)))) (by omega) (by omega)
                                      exact J84 _ 0 x_69 w74 (by omega) (Nat.lt_succ_self _)
                                exact J76 _ 0 x_57 w58 w59 w60 w61 w62 (by omega) (Nat.lt_succ_self _)
                              · skip
                                refine zW.run 2 (pc' := 265) (ls' := [some (.ref 6), some (.long x_57), none, some (.ref 19), some (.int (Int32.ofInt 12)), some (.int (Int32.ofInt (i_56 : Int))), w58, w59, w60, w61, w62]) (st' := [.int (Int32.ofInt (i_56 : Int)), .ref 19]) (σ' := (zN L X (zhi s) R G nc ns)) (fun n => rfl) ?_
                                refine zW.jaald (n := 12) (v := .ref (42 + i_56)) rfl rfl (by decide) (by decide) (by omega) (zr_com S (by omega)) ?_
                                refine zW.run 4 (pc' := 275) (ls' := [some (.ref 6), some (.long x_57), none, some (.ref 19), some (.int (Int32.ofInt 12)), some (.int (Int32.ofInt (i_56 : Int))), some (.ref (42 + i_56)), some (.ref 3), w60, w61, w62]) (st' := [.ref 3]) (σ' := (zN L X (zhi s) R G nc ns)) (fun n => rfl) ?_
                                refine zW.alen rfl rfl (by decide) ?_
                                show zW ro 6 276 [some (.ref 6), some (.long x_57), none, some (.ref 19), some (.int (Int32.ofInt 12)), some (.int (Int32.ofInt (i_56 : Int))), some (.ref (42 + i_56)), some (.ref 3), w60, w61, w62] [.int (Int32.ofInt 6)] (zN L X (zhi s) R G nc ns) Q
                                refine zW.run 3 (pc' := 281) (ls' := [some (.ref 6), some (.long x_57), none, some (.ref 19), some (.int (Int32.ofInt 12)), some (.int (Int32.ofInt (i_56 : Int))), some (.ref (42 + i_56)), some (.ref 3), some (.int (Int32.ofInt 6)), some (.int (Int32.ofInt 0)), w62]) (st' := []) (σ' := (zN L X (zhi s) R G nc ns)) (fun n => rfl) ?_
                                have J96 : ∀ m : Nat, ∀ (i_92 : Nat) (x_93 : Int64) (w94 : Option Value), i_92 ≤ 6 → 7 - i_92 < m → zW ro 6 281 [some (.ref 6), some (.long x_93), none, some (.ref 19), some (.int (Int32.ofInt 12)), some (.int (Int32.ofInt (i_56 : Int))), some (.ref (42 + i_56)), some (.ref 3), some (.int (Int32.ofInt 6)), some (.int (Int32.ofInt (i_92 : Int))), w94] [] (zN L X (zhi s) R G nc ns) Q := by
                                  intro m
                                  induction m with
                                  | zero => intros; omega
                                  | succ m ih97 =>
                                    intro i_92 x_93 w94 c95 hm98
                                    refine zW.run 2 (pc' := 285) (ls' := [some (.ref 6), some (.long x_93), none, some (.ref 19), some (.int (Int32.ofInt 12)), some (.int (Int32.ofInt (i_56 : Int))), some (.ref (42 + i_56)), some (.ref 3), some (.int (Int32.ofInt 6)), some (.int (Int32.ofInt (i_92 : Int))), w94]) (st' := [.int (Int32.ofInt 6), .int (Int32.ofInt (i_92 : Int))]) (σ' := (zN L X (zhi s) R G nc ns)) (fun n => rfl) ?_
                                    refine zW.jcmp_ge rfl (by omega) (fun c99 => ?_) (fun c99 => ?_)
                                    · skip
                                      refine zW.jinc (ls' := [some (.ref 6), some (.long x_93), none, some (.ref 19), some (.int (Int32.ofInt 12)), some (.int (Int32.ofInt ((i_56 : Int) + 1))), some (.ref (42 + i_56)), some (.ref 3), some (.int (Int32.ofInt 6)), some (.int (Int32.ofInt (i_92 : Int))), w94]) rfl (Nat.le_of_ble_eq_true rfl) rfl rfl ?_
                                      refine zW.run 1 (pc' := 255) (ls' := [some (.ref 6), some (.long x_93), none, some (.ref 19), some (.int (Int32.ofInt 12)), some (.int (Int32.ofInt ((i_56 : Int) + 1))), some (.ref (42 + i_56)), some (.ref 3), some (.int (Int32.ofInt 6)), some (.int (Int32.ofInt (i_92 : Int))), w94]) (st' := []) (σ' := (zN L X (zhi s) R G nc ns)) (fun n => rfl) ?_
                                      exact ih65 (i_56 + 1) x_93 (some (.ref (42 + i_56))) (some (.ref 3)) (some (.int (Int32.ofInt 6))) (some (.int (Int32.ofInt (i_92 : Int)))) w94 (by omega) (by omega)
                                    · skip
                                      refine zW.run 2 (pc' := 292) (ls' := [some (.ref 6), some (.long x_93), none, some (.ref 19), some (.int (Int32.ofInt 12)), some (.int (Int32.ofInt (i_56 : Int))), some (.ref (42 + i_56)), some (.ref 3), some (.int (Int32.ofInt 6)), some (.int (Int32.ofInt (i_92 : Int))), w94]) (st' := [.int (Int32.ofInt (i_92 : Int)), .ref 3]) (σ' := (zN L X (zhi s) R G nc ns)) (fun n => rfl) ?_
                                      refine zW.jals (n := 6) (v := (s 3 i_92)) rfl rfl (by decide) (by omega) rfl ?_
                                      have f100 := zA_st (zV_zA V) (p := 3) (k := i_92) (by omega) (by omega)
                                      refine zW.run 2 (pc' := 297) (ls' := [some (.ref 6), some (.long x_93), none, some (.ref 19), some (.int (Int32.ofInt 12)), some (.int (Int32.ofInt (i_56 : Int))), some (.ref (42 + i_56)), some (.ref 3), some (.int (Int32.ofInt 6)), some (.int (Int32.ofInt (i_92 : Int))), some (.int (Int32.ofInt (s 3 i_92)))]) (st' := [.ref (42 + i_56)]) (σ' := (zN L X (zhi s) R G nc ns)) (fun n => rfl) ?_
                                      refine zW.callV rfl (by decide) rfl rfl rfl rfl (zk_com (by omega)) (Nat.le_of_ble_eq_true rfl) ?_
                                      refine t_Company_isPlaced S V (i := i_56) (by omega) (fun f101 => ?_) (fun f102 => ?_)
                                      · skip
                                        show zW ro 6 300 [some (.ref 6), some (.long x_93), none, some (.ref 19), some (.int (Int32.ofInt 12)), some (.int (Int32.ofInt (i_56 : Int))), some (.ref (42 + i_56)), some (.ref 3), some (.int (Int32.ofInt 6)), some (.int (Int32.ofInt (i_92 : Int))), some (.int (Int32.ofInt (s 3 i_92)))] [.int (Int32.ofInt 1)] (zN L X (zhi s) R G nc ns) Q
                                        refine zW.run 7 (pc' := 313) (ls' := [some (.ref 6), some (.long x_93), none, some (.ref 19), some (.int (Int32.ofInt 12)), some (.int (Int32.ofInt (i_56 : Int))), some (.ref (42 + i_56)), some (.ref 3), some (.int (Int32.ofInt 6)), some (.int (Int32.ofInt (i_92 : Int))), some (.int (Int32.ofInt (s 3 i_92)))]) (st' := [.int (Int32.ofInt (s 3 i_92)), .ref (42 + i_56), .ref 6, .long (x_93 * (Int64.ofNat 31))]) (σ' := (zN L X (zhi s) R G nc ns)) (fun n => rfl) ?_
                                        refine zW.callV rfl (by decide) rfl rfl rfl rfl rfl (Nat.le_of_ble_eq_true rfl) ?_
                                        refine t_S_companyFact S V (i := i_56) (d := (s 3 i_92)) (by omega) (by omega) (fun v_103 => ?_)
                                        show zW ro 6 316 [some (.ref 6), some (.long x_93), none, some (.ref 19), some (.int (Int32.ofInt 12)), some (.int (Int32.ofInt (i_56 : Int))), some (.ref (42 + i_56)), some (.ref 3), some (.int (Int32.ofInt 6)), some (.int (Int32.ofInt (i_92 : Int))), some (.int (Int32.ofInt (s 3 i_92)))] [.int (Int32.ofInt v_103), .long (x_93 * (Int64.ofNat 31))] (zN L X (zhi s) R G nc ns) Q
                                        refine zW.run 4 (pc' := 323) (ls' := [some (.ref 6), some (.long ((x_93 * (Int64.ofNat 31)) + ((Int32.ofInt v_103)).toInt64)), none, some (.ref 19), some (.int (Int32.ofInt 12)), some (.int (Int32.ofInt (i_56 : Int))), some (.ref (42 + i_56)), some (.ref 3), some (.int (Int32.ofInt 6)), some (.int (Int32.ofInt (i_92 : Int))), some (.int (Int32.ofInt (s 3 i_92)))]) (st' := []) (σ' := (zN L X (zhi s) R G nc ns)) (fun n => rfl) ?_
                                        refine zW.jinc (ls' := [some (.ref 6), some (.long ((x_93 * (Int64.ofNat 31)) + ((Int32.ofInt v_103)).toInt64)), none, some (.ref 19), some (.int (Int32.ofInt 12)), some (.int (Int32.ofInt (i_56 : Int))), some (.ref (42 + i_56)), some (.ref 3), some (.int (Int32.ofInt 6)), some (.int (Int32.ofInt ((i_92 : Int) + 1))), some (.int (Int32.ofInt (s 3 i_92)))]) rfl (Nat.le_of_ble_eq_true rfl) rfl rfl ?_
                                        refine zW.run 1 (pc' := 281) (ls' := [some (.ref 6), some (.long ((x_93 * (Int64.ofNat 31)) + ((Int32.ofInt v_103)).toInt64)), none, some (.ref 19), some (.int (Int32.ofInt 12)), some (.int (Int32.ofInt (i_56 : Int))), some (.ref (42 + i_56)), some (.ref 3), some (.int (Int32.ofInt 6)), some (.int (Int32.ofInt ((i_92 : Int) + 1))), some (.int (Int32.ofInt (s 3 i_92)))]) (st' := []) (σ' := (zN L X (zhi s) R G nc ns)) (fun n => rfl) ?_
                                        exact ih97 (i_92 + 1) ((x_93 * (Int64.ofNat 31)) + ((Int32.ofInt v_103)).toInt64) (some (.int (Int32.ofInt (s 3 i_92)))) (by omega) (by omega)
                                      · skip
                                        show zW ro 6 300 [some (.ref 6), some (.long x_93), none, some (.ref 19), some (.int (Int32.ofInt 12)), some (.int (Int32.ofInt (i_56 : Int))), some (.ref (42 + i_56)), some (.ref 3), some (.int (Int32.ofInt 6)), some (.int (Int32.ofInt (i_92 : Int))), some (.int (Int32.ofInt (s 3 i_92)))] [.int (Int32.ofInt 0)] (zN L X (zhi s) R G nc ns) Q
                                        refine zW.run 3 (pc' := 323) (ls' := [some (.ref 6), some (.long x_93), none, some (.ref 19), some (.int (Int32.ofInt 12)), some (.int (Int32.ofInt (i_56 : Int))), some (.ref (42 + i_56)), some (.ref 3), some (.int (Int32.ofInt 6)), some (.int (Int32.ofInt (i_92 : Int))), some (.int (Int32.ofInt (s 3 i_92)))]) (st' := []) (σ' := (zN L X (zhi s) R G nc ns)) (fun n => rfl) ?_
                                        refine zW.jinc (ls' := [some (.ref 6), some (.long x_93), none, some (.ref 19), some (.int (Int32.ofInt 12)), some (.int (Int32.ofInt (i_56 : Int))), some (.ref (42 + i_56)), some (.ref 3), some (.int (Int32.ofInt 6)), some (.int (Int32.ofInt ((i_92 : Int) + 1))), some (.int (Int32.ofInt (s 3 i_92)))]) rfl (Nat.le_of_ble_eq_true rfl) rfl rfl ?_
                                        refine zW.run 1 (pc' := 281) (ls' := [some (.ref 6), some (.long x_93), none, some (.ref 19), some (.int (Int32.ofInt 12)), some (.int (Int32.ofInt (i_56 : Int))), some (.ref (42 + i_56)), some (.ref 3), some (.int (Int32.ofInt 6)), some (.int (Int32.ofInt ((i_92 : Int) + 1))), some (.int (Int32.ofInt (s 3 i_92)))]) (st' := []) (σ' := (zN L X (zhi s) R G nc ns)) (fun n => rfl) ?_
                                        exact ih97 (i_92 + 1) x_93 (some (.int (Int32.ofInt (s 3 i_92)))) (by omega) (by omega)
                                exact J96 _ 0 x_57 w62 (by omega) (Nat.lt_succ_self _)
                          exact J64 _ 0 x_45 w46 w47 w48 w49 w50 (by omega) (Nat.lt_succ_self _)
                        · skip
                          refine zW.run 2 (pc' := 170) (ls' := [some (.ref 6), some (.long x_45), none, some (.ref 18), some (.int (Int32.ofInt 16)), some (.int (Int32.ofInt (i_44 : Int))), w46, w47, w48, w49, w50]) (st' := [.int (Int32.ofInt (i_44 : Int)), .ref 18]) (σ' := (zN L X (zhi s) R G nc ns)) (fun n => rfl) ?_
                          refine zW.jaald (n := 16) (v := .ref (26 + i_44)) rfl rfl (by decide) (by decide) (by omega) (zr_gun S (by omega)) ?_
                          refine zW.run 4 (pc' := 180) (ls' := [some (.ref 6), some (.long x_45), none, some (.ref 18), some (.int (Int32.ofInt 16)), some (.int (Int32.ofInt (i_44 : Int))), some (.ref (26 + i_44)), some (.ref 2), w48, w49, w50]) (st' := [.ref 2]) (σ' := (zN L X (zhi s) R G nc ns)) (fun n => rfl) ?_
                          refine zW.alen rfl rfl (by decide) ?_
                          show zW ro 6 181 [some (.ref 6), some (.long x_45), none, some (.ref 18), some (.int (Int32.ofInt 16)), some (.int (Int32.ofInt (i_44 : Int))), some (.ref (26 + i_44)), some (.ref 2), w48, w49, w50] [.int (Int32.ofInt 6)] (zN L X (zhi s) R G nc ns) Q
                          refine zW.run 3 (pc' := 186) (ls' := [some (.ref 6), some (.long x_45), none, some (.ref 18), some (.int (Int32.ofInt 16)), some (.int (Int32.ofInt (i_44 : Int))), some (.ref (26 + i_44)), some (.ref 2), some (.int (Int32.ofInt 6)), some (.int (Int32.ofInt 0)), w50]) (st' := []) (σ' := (zN L X (zhi s) R G nc ns)) (fun n => rfl) ?_
                          have J108 : ∀ m : Nat, ∀ (i_104 : Nat) (x_105 : Int64) (w106 : Option Value), i_104 ≤ 6 → 7 - i_104 < m → zW ro 6 186 [some (.ref 6), some (.long x_105), none, some (.ref 18), some (.int (Int32.ofInt 16)), some (.int (Int32.ofInt (i_44 : Int))), some (.ref (26 + i_44)), some (.ref 2), some (.int (Int32.ofInt 6)), some (.int (Int32.ofInt (i_104 : Int))), w106] [] (zN L X (zhi s) R G nc ns) Q := by
                            intro m
                            induction m with
                            | zero => intros; omega
                            | succ m ih109 =>
                              intro i_104 x_105 w106 c107 hm110
                              refine zW.run 2 (pc' := 190) (ls' := [some (.ref 6), some (.long x_105), none, some (.ref 18), some (.int (Int32.ofInt 16)), some (.int (Int32.ofInt (i_44 : Int))), some (.ref (26 + i_44)), some (.ref 2), some (.int (Int32.ofInt 6)), some (.int (Int32.ofInt (i_104 : Int))), w106]) (st' := [.int (Int32.ofInt 6), .int (Int32.ofInt (i_104 : Int))]) (σ' := (zN L X (zhi s) R G nc ns)) (fun n => rfl) ?_
                              refine zW.jcmp_ge rfl (by omega) (fun c111 => ?_) (fun c111 => ?_)
                              · skip
                                refine zW.jinc (ls' := [some (.ref 6), some (.long x_105), none, some (.ref 18), some (.int (Int32.ofInt 16)), some (.int (Int32.ofInt ((i_44 : Int) + 1))), some (.ref (26 + i_44)), some (.ref 2), some (.int (Int32.ofInt 6)), some (.int (Int32.ofInt (i_104 : Int))), w106]) rfl (Nat.le_of_ble_eq_true rfl) rfl rfl ?_
                                refine zW.run 1 (pc' := 160) (ls' := [some (.ref 6), some (.long x_105), none, some (.ref 18), some (.int (Int32.ofInt 16)), some (.int (Int32.ofInt ((i_44 : Int) + 1))), some (.ref (26 + i_44)), some (.ref 2), some (.int (Int32.ofInt 6)), some (.int (Int32.ofInt (i_104 : Int))), w106]) (st' := []) (σ' := (zN L X (zhi s) R G nc ns)) (fun n => rfl) ?_
                                exact ih53 (i_44 + 1) x_105 (some (.ref (26 + i_44))) (some (.ref 2)) (some (.int (Int32.ofInt 6))) (some (.int (Int32.ofInt (i_104 : Int)))) w106 (by omega) (by omega)
                              · skip
                                refine zW.run 2 (pc' := 197) (ls' := [some (.ref 6), some (.long x_105), none, some (.ref 18), some (.int (Int32.ofInt 16)), some (.int (Int32.ofInt (i_44 : Int))), some (.ref (26 + i_44)), some (.ref 2), some (.int (Int32.ofInt 6)), some (.int (Int32.ofInt (i_104 : Int))), w106]) (st' := [.int (Int32.ofInt (i_104 : Int)), .ref 2]) (σ' := (zN L X (zhi s) R G nc ns)) (fun n => rfl) ?_
                                refine zW.jals (n := 6) (v := (s 2 i_104)) rfl rfl (by decide) (by omega) rfl ?_
                                have f112 := zA_st (zV_zA V) (p := 2) (k := i_104) (by omega) (by omega)
                                refine zW.run 2 (pc' := 202) (ls' := [some (.ref 6), some (.long x_105), none, some (.ref 18), some (.int (Int32.ofInt 16)), some (.int (Int32.ofInt (i_44 : Int))), some (.ref (26 + i_44)), some (.ref 2), some (.int (Int32.ofInt 6)), some (.int (Int32.ofInt (i_104 : Int))), some (.int (Int32.ofInt (s 2 i_104)))]) (st' := [.ref (26 + i_44)]) (σ' := (zN L X (zhi s) R G nc ns)) (fun n => rfl) ?_
                                refine zW.callV rfl (by decide) rfl rfl rfl rfl (zk_gun (by omega)) (Nat.le_of_ble_eq_true rfl) ?_
                                refine t_Gun_isPlaced S V (i := i_44) (by omega) (fun f113 => ?_) (fun f114 => ?_)
                                · skip
                                  show zW ro 6 205 [some (.ref 6), some (.long x_105), none, some (.ref 18), some (.int (Int32.ofInt 16)), some (.int (Int32.ofInt (i_44 : Int))), some (.ref (26 + i_44)), some (.ref 2), some (.int (Int32.ofInt 6)), some (.int (Int32.ofInt (i_104 : Int))), some (.int (Int32.ofInt (s 2 i_104)))] [.int (Int32.ofInt 1)] (zN L X (zhi s) R G nc ns) Q
                                  refine zW.run 7 (pc' := 218) (ls' := [some (.ref 6), some (.long x_105), none, some (.ref 18), some (.int (Int32.ofInt 16)), some (.int (Int32.ofInt (i_44 : Int))), some (.ref (26 + i_44)), some (.ref 2), some (.int (Int32.ofInt 6)), some (.int (Int32.ofInt (i_104 : Int))), some (.int (Int32.ofInt (s 2 i_104)))]) (st' := [.int (Int32.ofInt (s 2 i_104)), .ref (26 + i_44), .ref 6, .long (x_105 * (Int64.ofNat 31))]) (σ' := (zN L X (zhi s) R G nc ns)) (fun n => rfl) ?_
                                  refine zW.callV rfl (by decide) rfl rfl rfl rfl rfl (Nat.le_of_ble_eq_true rfl) ?_
                                  refine t_S_gunFact S V (i := i_44) (d := (s 2 i_104)) (by omega) (by omega) (fun v_115 => ?_)
                                  show zW ro 6 221 [some (.ref 6), some (.long x_105), none, some (.ref 18), some (.int (Int32.ofInt 16)), some (.int (Int32.ofInt (i_44 : Int))), some (.ref (26 + i_44)), some (.ref 2), some (.int (Int32.ofInt 6)), some (.int (Int32.ofInt (i_104 : Int))), some (.int (Int32.ofInt (s 2 i_104)))] [.int (Int32.ofInt v_115), .long (x_105 * (Int64.ofNat 31))] (zN L X (zhi s) R G nc ns) Q
                                  refine zW.run 4 (pc' := 228) (ls' := [some (.ref 6), some (.long ((x_105 * (Int64.ofNat 31)) + ((Int32.ofInt v_115)).toInt64)), none, some (.ref 18), some (.int (Int32.ofInt 16)), some (.int (Int32.ofInt (i_44 : Int))), some (.ref (26 + i_44)), some (.ref 2), some (.int (Int32.ofInt 6)), some (.int (Int32.ofInt (i_104 : Int))), some (.int (Int32.ofInt (s 2 i_104)))]) (st' := []) (σ' := (zN L X (zhi s) R G nc ns)) (fun n => rfl) ?_
                                  refine zW.jinc (ls' := [some (.ref 6), some (.long ((x_105 * (Int64.ofNat 31)) + ((Int32.ofInt v_115)).toInt64)), none, some (.ref 18), some (.int (Int32.ofInt 16)), some (.int (Int32.ofInt (i_44 : Int))), some (.ref (26 + i_44)), some (.ref 2), some (.int (Int32.ofInt 6)), some (.int (Int32.ofInt ((i_104 : Int) + 1))), some (.int (Int32.ofInt (s 2 i_104)))]) rfl (Nat.le_of_ble_eq_true rfl) rfl rfl ?_
                                  refine zW.run 1 (pc' := 186) (ls' := [some (.ref 6), some (.long ((x_105 * (Int64.ofNat 31)) + ((Int32.ofInt v_115)).toInt64)), none, some (.ref 18), some (.int (Int32.ofInt 16)), some (.int (Int32.ofInt (i_44 : Int))), some (.ref (26 + i_44)), some (.ref 2), some (.int (Int32.ofInt 6)), some (.int (Int32.ofInt ((i_104 : Int) + 1))), some (.int (Int32.ofInt (s 2 i_104)))]) (st' := []) (σ' := (zN L X (zhi s) R G nc ns)) (fun n => rfl) ?_
                                  exact ih109 (i_104 + 1) ((x_105 * (Int64.ofNat 31)) + ((Int32.ofInt v_115)).toInt64) (some (.int (Int32.ofInt (s 2 i_104)))) (by omega) (by omega)
                                · skip
                                  show zW ro 6 205 [some (.ref 6), some (.long x_105), none, some (.ref 18), some (.int (Int32.ofInt 16)), some (.int (Int32.ofInt (i_44 : Int))), some (.ref (26 + i_44)), some (.ref 2), some (.int (Int32.ofInt 6)), some (.int (Int32.ofInt (i_104 : Int))), some (.int (Int32.ofInt (s 2 i_104)))] [.int (Int32.ofInt 0)] (zN L X (zhi s) R G nc ns) Q
                                  refine zW.run 3 (pc' := 228) (ls' := [some (.ref 6), some (.long x_105), none, some (.ref 18), some (.int (Int32.ofInt 16)), some (.int (Int32.ofInt (i_44 : Int))), some (.ref (26 + i_44)), some (.ref 2), some (.int (Int32.ofInt 6)), some (.int (Int32.ofInt (i_104 : Int))), some (.int (Int32.ofInt (s 2 i_104)))]) (st' := []) (σ' := (zN L X (zhi s) R G nc ns)) (fun n => rfl) ?_
                                  refine zW.jinc (ls' := [some (.ref 6), some (.long x_105), none, some (.ref 18), some (.int (Int32.ofInt 16)), some (.int (Int32.ofInt (i_44 : Int))), some (.ref (26 + i_44)), some (.ref 2), some (.int (Int32.ofInt 6)), some (.int (Int32.ofInt ((i_104 : Int) + 1))), some (.int (Int32.ofInt (s 2 i_104)))]) rfl (Nat.le_of_ble_eq_true rfl) rfl rfl ?_
                                  refine zW.run 1 (pc' := 186) (ls' := [some (.ref 6), some (.long x_105), none, some (.ref 18), some (.int (Int32.ofInt 16)), some (.int (Int32.ofInt (i_44 : Int))), some (.ref (26 + i_44)), some (.ref 2), some (.int (Int32.ofInt 6)), some (.int (Int32.ofInt ((i_104 : Int) + 1))), some (.int (Int32.ofInt (s 2 i_104)))]) (st' := []) (σ' := (zN L X (zhi s) R G nc ns)) (fun n => rfl) ?_
                                  exact ih109 (i_104 + 1) x_105 (some (.int (Int32.ofInt (s 2 i_104)))) (by omega) (by omega)
                          exact J108 _ 0 x_45 w50 (by omega) (Nat.lt_succ_self _)
                    exact J52 _ 0 x_31 w34 w35 w36 w37 w38 (by omega) (Nat.lt_succ_self _)
                  · skip
                    refine zW.run 3 (pc' := 98) (ls' := [some (.ref 6), some (.long x_31), none, some (.int (Int32.ofInt (k_30 : Int))), some (.ref 1), w33, w34, w35, w36, w37, w38]) (st' := [.ref 1]) (σ' := (zN L X (zhi s) R G nc ns)) (fun n => rfl) ?_
                    refine zW.alen rfl rfl (by decide) ?_
                    show zW ro 6 99 [some (.ref 6), some (.long x_31), none, some (.int (Int32.ofInt (k_30 : Int))), some (.ref 1), w33, w34, w35, w36, w37, w38] [.int (Int32.ofInt 4)] (zN L X (zhi s) R G nc ns) Q
                    refine zW.run 3 (pc' := 104) (ls' := [some (.ref 6), some (.long x_31), none, some (.int (Int32.ofInt (k_30 : Int))), some (.ref 1), some (.int (Int32.ofInt 4)), some (.int (Int32.ofInt 0)), w35, w36, w37, w38]) (st' := []) (σ' := (zN L X (zhi s) R G nc ns)) (fun n => rfl) ?_
                    have J123 : ∀ m : Nat, ∀ (i_116 : Nat) (x_117 : Int64) (w118 : Option Value) (w119 : Option Value) (w120 : Option Value) (w121 : Option Value), i_116 ≤ 4 → 5 - i_116 < m → zW ro 6 104 [some (.ref 6), some (.long x_117), none, some (.int (Int32.ofInt (k_30 : Int))), some (.ref 1), some (.int (Int32.ofInt 4)), some (.int (Int32.ofInt (i_116 : Int))), w118, w119, w120, w121] [] (zN L X (zhi s) R G nc ns) Q := by
                      intro m
                      induction m with
                      | zero => intros; omega
                      | succ m ih124 =>
                        intro i_116 x_117 w118 w119 w120 w121 c122 hm125
                        refine zW.run 2 (pc' := 108) (ls' := [some (.ref 6), some (.long x_117), none, some (.int (Int32.ofInt (k_30 : Int))), some (.ref 1), some (.int (Int32.ofInt 4)), some (.int (Int32.ofInt (i_116 : Int))), w118, w119, w120, w121]) (st' := [.int (Int32.ofInt 4), .int (Int32.ofInt (i_116 : Int))]) (σ' := (zN L X (zhi s) R G nc ns)) (fun n => rfl) ?_
                        refine zW.jcmp_ge rfl (by omega) (fun c126 => ?_) (fun c126 => ?_)
                        · skip
                          refine zW.jinc (ls' := [some (.ref 6), some (.long x_117), none, some (.int (Int32.ofInt ((k_30 : Int) + 1))), some (.ref 1), some (.int (Int32.ofInt 4)), some (.int (Int32.ofInt (i_116 : Int))), w118, w119, w120, w121]) rfl (Nat.le_of_ble_eq_true rfl) rfl rfl ?_
                          refine zW.run 1 (pc' := 77) (ls' := [some (.ref 6), some (.long x_117), none, some (.int (Int32.ofInt ((k_30 : Int) + 1))), some (.ref 1), some (.int (Int32.ofInt 4)), some (.int (Int32.ofInt (i_116 : Int))), w118, w119, w120, w121]) (st' := []) (σ' := (zN L X (zhi s) R G nc ns)) (fun n => rfl) ?_
                          exact ih41 (k_30 + 1) x_117 (some (.ref 1)) (some (.int (Int32.ofInt 4))) (some (.int (Int32.ofInt (i_116 : Int)))) w118 w119 w120 w121 (by omega) (by omega)
                        · skip
                          refine zW.run 2 (pc' := 115) (ls' := [some (.ref 6), some (.long x_117), none, some (.int (Int32.ofInt (k_30 : Int))), some (.ref 1), some (.int (Int32.ofInt 4)), some (.int (Int32.ofInt (i_116 : Int))), w118, w119, w120, w121]) (st' := [.int (Int32.ofInt (i_116 : Int)), .ref 1]) (σ' := (zN L X (zhi s) R G nc ns)) (fun n => rfl) ?_
                          refine zW.jals (n := 4) (v := (s 1 i_116)) rfl rfl (by decide) (by omega) rfl ?_
                          have f127 := zA_st (zV_zA V) (p := 1) (k := i_116) (by omega) (by omega)
                          refine zW.run 7 (pc' := 127) (ls' := [some (.ref 6), some (.long x_117), none, some (.int (Int32.ofInt (k_30 : Int))), some (.ref 1), some (.int (Int32.ofInt 4)), some (.int (Int32.ofInt (i_116 : Int))), some (.int (Int32.ofInt (s 1 i_116))), w119, w120, w121]) (st' := [.int (Int32.ofInt (s 1 i_116)), .int (Int32.ofInt (k_30 : Int)), .ref 6, .long (x_117 * (Int64.ofNat 31))]) (σ' := (zN L X (zhi s) R G nc ns)) (fun n => rfl) ?_
                          refine zW.callV rfl (by decide) rfl rfl rfl rfl rfl (Nat.le_of_ble_eq_true rfl) ?_
                          refine t_S_squareFact S V (x := (k_30 : Int)) (d := (s 1 i_116)) (by omega) (by omega) (fun v_128 => ?_)
                          show zW ro 6 130 [some (.ref 6), some (.long x_117), none, some (.int (Int32.ofInt (k_30 : Int))), some (.ref 1), some (.int (Int32.ofInt 4)), some (.int (Int32.ofInt (i_116 : Int))), some (.int (Int32.ofInt (s 1 i_116))), w119, w120, w121] [.int (Int32.ofInt v_128), .long (x_117 * (Int64.ofNat 31))] (zN L X (zhi s) R G nc ns) Q
                          refine zW.run 3 (pc' := 133) (ls' := [some (.ref 6), some (.long ((x_117 * (Int64.ofNat 31)) + ((Int32.ofInt v_128)).toInt64)), none, some (.int (Int32.ofInt (k_30 : Int))), some (.ref 1), some (.int (Int32.ofInt 4)), some (.int (Int32.ofInt (i_116 : Int))), some (.int (Int32.ofInt (s 1 i_116))), w119, w120, w121]) (st' := []) (σ' := (zN L X (zhi s) R G nc ns)) (fun n => rfl) ?_
                          refine zW.jinc (ls' := [some (.ref 6), some (.long ((x_117 * (Int64.ofNat 31)) + ((Int32.ofInt v_128)).toInt64)), none, some (.int (Int32.ofInt (k_30 : Int))), some (.ref 1), some (.int (Int32.ofInt 4)), some (.int (Int32.ofInt ((i_116 : Int) + 1))), some (.int (Int32.ofInt (s 1 i_116))), w119, w120, w121]) rfl (Nat.le_of_ble_eq_true rfl) rfl rfl ?_
                          refine zW.run 1 (pc' := 104) (ls' := [some (.ref 6), some (.long ((x_117 * (Int64.ofNat 31)) + ((Int32.ofInt v_128)).toInt64)), none, some (.int (Int32.ofInt (k_30 : Int))), some (.ref 1), some (.int (Int32.ofInt 4)), some (.int (Int32.ofInt ((i_116 : Int) + 1))), some (.int (Int32.ofInt (s 1 i_116))), w119, w120, w121]) (st' := []) (σ' := (zN L X (zhi s) R G nc ns)) (fun n => rfl) ?_
                          exact ih124 (i_116 + 1) ((x_117 * (Int64.ofNat 31)) + ((Int32.ofInt v_128)).toInt64) (some (.int (Int32.ofInt (s 1 i_116)))) w119 w120 w121 (by omega) (by omega)
                    exact J123 _ 0 x_31 w35 w36 w37 w38 (by omega) (Nat.lt_succ_self _)
              exact J40 _ 0 x_17 w18 w19 w20 w21 w22 w23 w24 (by omega) (Nat.lt_succ_self _)
            · skip
              refine zW.run 2 (pc' := 41) (ls' := [some (.ref 6), some (.long x_17), none, some (.int (Int32.ofInt (i_16 : Int))), some (.int (Int32.ofInt 0)), w19, w20, w21, w22, w23, w24]) (st' := []) (σ' := (zN L X (zhi s) R G nc ns)) (fun n => rfl) ?_
              have J138 : ∀ m : Nat, ∀ (i_129 : Nat) (x_130 : Int64) (w131 : Option Value) (w132 : Option Value) (w133 : Option Value) (w134 : Option Value) (w135 : Option Value) (w136 : Option Value), i_129 ≤ 13 → 14 - i_129 < m → zW ro 6 41 [some (.ref 6), some (.long x_130), none, some (.int (Int32.ofInt (i_16 : Int))), some (.int (Int32.ofInt (i_129 : Int))), w131, w132, w133, w134, w135, w136] [] (zN L X (zhi s) R G nc ns) Q := by
                intro m
                induction m with
                | zero => intros; omega
                | succ m ih139 =>
                  intro i_129 x_130 w131 w132 w133 w134 w135 w136 c137 hm140
                  refine zW.run 2 (pc' := 45) (ls' := [some (.ref 6), some (.long x_130), none, some (.int (Int32.ofInt (i_16 : Int))), some (.int (Int32.ofInt (i_129 : Int))), w131, w132, w133, w134, w135, w136]) (st' := [.int (Int32.ofInt 12), .int (Int32.ofInt (i_129 : Int))]) (σ' := (zN L X (zhi s) R G nc ns)) (fun n => rfl) ?_
                  refine zW.jcmp_gt rfl (by omega) (fun c141 => ?_) (fun c141 => ?_)
                  · skip
                    refine zW.jinc (ls' := [some (.ref 6), some (.long x_130), none, some (.int (Int32.ofInt ((i_16 : Int) + 1))), some (.int (Int32.ofInt (i_129 : Int))), w131, w132, w133, w134, w135, w136]) rfl (Nat.le_of_ble_eq_true rfl) rfl rfl ?_
                    refine zW.run 1 (pc' := 33) (ls' := [some (.ref 6), some (.long x_130), none, some (.int (Int32.ofInt ((i_16 : Int) + 1))), some (.int (Int32.ofInt (i_129 : Int))), w131, w132, w133, w134, w135, w136]) (st' := []) (σ' := (zN L X (zhi s) R G nc ns)) (fun n => rfl) ?_
                    exact ih27 (i_16 + 1) x_130 (some (.int (Int32.ofInt (i_129 : Int)))) w131 w132 w133 w134 w135 w136 (by omega) (by omega)
                  · skip
                    refine zW.run 6 (pc' := 57) (ls' := [some (.ref 6), some (.long x_130), none, some (.int (Int32.ofInt (i_16 : Int))), some (.int (Int32.ofInt (i_129 : Int))), w131, w132, w133, w134, w135, w136]) (st' := [.int (Int32.ofInt (i_129 : Int)), .int (Int32.ofInt (i_16 : Int)), .ref 6, .long (x_130 * (Int64.ofNat 31))]) (σ' := (zN L X (zhi s) R G nc ns)) (fun n => rfl) ?_
                    refine zW.callV rfl (by decide) rfl rfl rfl rfl rfl (Nat.le_of_ble_eq_true rfl) ?_
                    refine t_S_sideFact S V (x := (i_16 : Int)) (d := (i_129 : Int)) (by omega) (by omega) (fun v_142 => ?_)
                    show zW ro 6 60 [some (.ref 6), some (.long x_130), none, some (.int (Int32.ofInt (i_16 : Int))), some (.int (Int32.ofInt (i_129 : Int))), w131, w132, w133, w134, w135, w136] [.int (Int32.ofInt v_142), .long (x_130 * (Int64.ofNat 31))] (zN L X (zhi s) R G nc ns) Q
                    refine zW.run 3 (pc' := 63) (ls' := [some (.ref 6), some (.long ((x_130 * (Int64.ofNat 31)) + ((Int32.ofInt v_142)).toInt64)), none, some (.int (Int32.ofInt (i_16 : Int))), some (.int (Int32.ofInt (i_129 : Int))), w131, w132, w133, w134, w135, w136]) (st' := []) (σ' := (zN L X (zhi s) R G nc ns)) (fun n => rfl) ?_
                    refine zW.jinc (ls' := [some (.ref 6), some (.long ((x_130 * (Int64.ofNat 31)) + ((Int32.ofInt v_142)).toInt64)), none, some (.int (Int32.ofInt (i_16 : Int))), some (.int (Int32.ofInt ((i_129 : Int) + 1))), w131, w132, w133, w134, w135, w136]) rfl (Nat.le_of_ble_eq_true rfl) rfl rfl ?_
                    refine zW.run 1 (pc' := 41) (ls' := [some (.ref 6), some (.long ((x_130 * (Int64.ofNat 31)) + ((Int32.ofInt v_142)).toInt64)), none, some (.int (Int32.ofInt (i_16 : Int))), some (.int (Int32.ofInt ((i_129 : Int) + 1))), w131, w132, w133, w134, w135, w136]) (st' := []) (σ' := (zN L X (zhi s) R G nc ns)) (fun n => rfl) ?_
                    exact ih139 (i_129 + 1) ((x_130 * (Int64.ofNat 31)) + ((Int32.ofInt v_142)).toInt64) w131 w132 w133 w134 w135 w136 (by omega) (by omega)
              exact J138 _ 0 x_17 w19 w20 w21 w22 w23 w24 (by omega) (Nat.lt_succ_self _)
        exact J26 _ 0 x_3 w4 w5 w6 w7 w8 w9 w10 (by omega) (Nat.lt_succ_self _)
      · skip
        refine zW.run 5 (pc' := 19) (ls' := [some (.ref 6), some (.long x_3), none, some (.int (Int32.ofInt (i_2 : Int))), w4, w5, w6, w7, w8, w9, w10]) (st' := [.int (Int32.ofInt (i_2 : Int)), .ref 6, .long (x_3 * (Int64.ofNat 31))]) (σ' := (zN L X (zhi s) R G nc ns)) (fun n => rfl) ?_
        refine zW.callV rfl (by decide) rfl rfl rfl rfl rfl (Nat.le_of_ble_eq_true rfl) ?_
        refine t_S_siegeFact S V (d := (i_2 : Int)) (by omega) (fun v_143 => ?_)
        show zW ro 6 22 [some (.ref 6), some (.long x_3), none, some (.int (Int32.ofInt (i_2 : Int))), w4, w5, w6, w7, w8, w9, w10] [.int (Int32.ofInt v_143), .long (x_3 * (Int64.ofNat 31))] (zN L X (zhi s) R G nc ns) Q
        refine zW.run 3 (pc' := 25) (ls' := [some (.ref 6), some (.long ((x_3 * (Int64.ofNat 31)) + ((Int32.ofInt v_143)).toInt64)), none, some (.int (Int32.ofInt (i_2 : Int))), w4, w5, w6, w7, w8, w9, w10]) (st' := []) (σ' := (zN L X (zhi s) R G nc ns)) (fun n => rfl) ?_
        refine zW.jinc (ls' := [some (.ref 6), some (.long ((x_3 * (Int64.ofNat 31)) + ((Int32.ofInt v_143)).toInt64)), none, some (.int (Int32.ofInt ((i_2 : Int) + 1))), w4, w5, w6, w7, w8, w9, w10]) rfl (Nat.le_of_ble_eq_true rfl) rfl rfl ?_
        refine zW.run 1 (pc' := 6) (ls' := [some (.ref 6), some (.long ((x_3 * (Int64.ofNat 31)) + ((Int32.ofInt v_143)).toInt64)), none, some (.int (Int32.ofInt ((i_2 : Int) + 1))), w4, w5, w6, w7, w8, w9, w10]) (st' := []) (σ' := (zN L X (zhi s) R G nc ns)) (fun n => rfl) ?_
        exact ih13 (i_2 + 1) ((x_3 * (Int64.ofNat 31)) + ((Int32.ofInt v_143)).toInt64) w4 w5 w6 w7 w8 w9 w10 (by omega) (by omega)
  exact J12 _ 0 (Int64.ofNat 58263) none none none none none none none (by omega) (Nat.lt_succ_self _)
set_option maxRecDepth 20000 in
set_option maxHeartbeats 4000000 in
theorem t_L_count (S : zSR R) (V : zV g U F T B ph s) {n : Int} {x : Int} (p0 : n = g 2) (p1 : -2147483648 ≤ x ∧ x < 2147483648) (hQ0 : ∀ (v : Int), 0 ≤ v ∧ v ≤ 144 → v = zcn s x (g 2).toNat → Q (.inl (some (.int (Int32.ofInt v)))) (zN L X (zhi s) R G nc ns)) : zW zro 162 0 (zfst [.ref 6, .int (Int32.ofInt n), .int (Int32.ofInt x)] 5) [] (zN L X (zhi s) R G nc ns) Q := by
  show zW zro 162 0 [some (.ref 6), some (.int (Int32.ofInt n)), some (.int (Int32.ofInt x)), none, none] [] (zN L X (zhi s) R G nc ns) Q
  have f1 := zA_geo (zV_zA V)
  have hB0 := zV_B V
  refine zW.run 4 (pc' := 5) (ls' := [some (.ref 6), some (.int (Int32.ofInt n)), some (.int (Int32.ofInt x)), some (.int (Int32.ofInt 0)), some (.int (Int32.ofInt 0))]) (st' := []) (σ' := (zN L X (zhi s) R G nc ns)) (fun n => rfl) ?_
  have J7 : ∀ m : Nat, ∀ (k_2 : Nat) (a_3 : Int), (k_2 : Int) ≤ g 2 → 0 ≤ a_3 ∧ a_3 ≤ k_2 → a_3 = zcn s x k_2 → 145 - k_2 < m → zW zro 162 5 [some (.ref 6), some (.int (Int32.ofInt n)), some (.int (Int32.ofInt x)), some (.int (Int32.ofInt a_3)), some (.int (Int32.ofInt (k_2 : Int)))] [] (zN L X (zhi s) R G nc ns) Q := by
    intro m
    induction m with
    | zero => intros; omega
    | succ m ih8 =>
      intro k_2 a_3 c4 c5 c6 hm9
      have hz : zcn s x (k_2 + 1) = zcn s x k_2 + (if s 11 k_2 = x then 1 else 0) := rfl
      refine zW.run 2 (pc' := 8) (ls' := [some (.ref 6), some (.int (Int32.ofInt n)), some (.int (Int32.ofInt x)), some (.int (Int32.ofInt a_3)), some (.int (Int32.ofInt (k_2 : Int)))]) (st' := [.int (Int32.ofInt n), .int (Int32.ofInt (k_2 : Int))]) (σ' := (zN L X (zhi s) R G nc ns)) (fun n => rfl) ?_
      refine zW.jcmp_ge rfl (by omega) (fun c10 => ?_) (fun c10 => ?_)
      · skip
        refine zW.run 1 (pc' := 37) (ls' := [some (.ref 6), some (.int (Int32.ofInt n)), some (.int (Int32.ofInt x)), some (.int (Int32.ofInt a_3)), some (.int (Int32.ofInt (k_2 : Int)))]) (st' := [.int (Int32.ofInt a_3)]) (σ' := (zN L X (zhi s) R G nc ns)) (fun n => rfl) ?_
        exact zW.jret rfl rfl (hQ0 a_3 (by omega) (by rw [show (g 2).toNat = k_2 by omega]; omega))
      · skip
        refine zW.run 4 (pc' := 16) (ls' := [some (.ref 6), some (.int (Int32.ofInt n)), some (.int (Int32.ofInt x)), some (.int (Int32.ofInt a_3)), some (.int (Int32.ofInt (k_2 : Int)))]) (st' := [.int (Int32.ofInt 2), .int (Int32.ofInt (k_2 : Int)), .ref 6, .int (Int32.ofInt a_3)]) (σ' := (zN L X (zhi s) R G nc ns)) (fun n => rfl) ?_
        refine zW.callV rfl (by decide) rfl rfl rfl rfl rfl (Nat.le_of_ble_eq_true rfl) ?_
        refine t_S_ofSquare_2 S V (x := (k_2 : Int)) (by omega) ?_
        show zW zro 162 19 [some (.ref 6), some (.int (Int32.ofInt n)), some (.int (Int32.ofInt x)), some (.int (Int32.ofInt a_3)), some (.int (Int32.ofInt (k_2 : Int)))] [.int (Int32.ofInt (s 11 k_2)), .int (Int32.ofInt a_3)] (zN L X (zhi s) R G nc ns) Q
        have f11 := zV_sq V (k := k_2) (by omega)
        refine zW.run 1 (pc' := 20) (ls' := [some (.ref 6), some (.int (Int32.ofInt n)), some (.int (Int32.ofInt x)), some (.int (Int32.ofInt a_3)), some (.int (Int32.ofInt (k_2 : Int)))]) (st' := [.int (Int32.ofInt x), .int (Int32.ofInt (s 11 k_2)), .int (Int32.ofInt a_3)]) (σ' := (zN L X (zhi s) R G nc ns)) (fun n => rfl) ?_
        have J13 : ∀ (v12 : Int), (¬ (s 11 k_2) = x ∧ v12 = 0) ∨ ((s 11 k_2) = x ∧ v12 = 1) → zW zro 162 28 [some (.ref 6), some (.int (Int32.ofInt n)), some (.int (Int32.ofInt x)), some (.int (Int32.ofInt a_3)), some (.int (Int32.ofInt (k_2 : Int)))] [.int (Int32.ofInt v12), .int (Int32.ofInt a_3)] (zN L X (zhi s) R G nc ns) Q := by
          intro v12 c14
          refine zW.jadd rfl ?_
          refine zW.run 1 (pc' := 30) (ls' := [some (.ref 6), some (.int (Int32.ofInt n)), some (.int (Int32.ofInt x)), some (.int (Int32.ofInt (a_3 + v12))), some (.int (Int32.ofInt (k_2 : Int)))]) (st' := []) (σ' := (zN L X (zhi s) R G nc ns)) (fun n => rfl) ?_
          refine zW.jinc (ls' := [some (.ref 6), some (.int (Int32.ofInt n)), some (.int (Int32.ofInt x)), some (.int (Int32.ofInt (a_3 + v12))), some (.int (Int32.ofInt ((k_2 : Int) + 1)))]) rfl (Nat.le_of_ble_eq_true rfl) rfl rfl ?_
          refine zW.run 1 (pc' := 5) (ls' := [some (.ref 6), some (.int (Int32.ofInt n)), some (.int (Int32.ofInt x)), some (.int (Int32.ofInt (a_3 + v12))), some (.int (Int32.ofInt ((k_2 : Int) + 1)))]) (st' := []) (σ' := (zN L X (zhi s) R G nc ns)) (fun n => rfl) ?_
          exact ih8 (k_2 + 1) (a_3 + v12) (by omega) (by omega) (by omega) (by omega)
        refine zW.jcmp_ne rfl (by omega) (fun c15 => ?_) (fun c15 => ?_)
        · skip
          refine zW.run 1 (pc' := 28) (ls' := [some (.ref 6), some (.int (Int32.ofInt n)), some (.int (Int32.ofInt x)), some (.int (Int32.ofInt a_3)), some (.int (Int32.ofInt (k_2 : Int)))]) (st' := [.int (Int32.ofInt 0), .int (Int32.ofInt a_3)]) (σ' := (zN L X (zhi s) R G nc ns)) (fun n => rfl) ?_
          exact J13 0 (by omega)
        · skip
          refine zW.run 2 (pc' := 28) (ls' := [some (.ref 6), some (.int (Int32.ofInt n)), some (.int (Int32.ofInt x)), some (.int (Int32.ofInt a_3)), some (.int (Int32.ofInt (k_2 : Int)))]) (st' := [.int (Int32.ofInt 1), .int (Int32.ofInt a_3)]) (σ' := (zN L X (zhi s) R G nc ns)) (fun n => rfl) ?_
          exact J13 1 (by omega)
  exact J7 _ 0 0 (by omega) (by omega) (rfl) (Nat.lt_succ_self _)
set_option maxRecDepth 20000 in
set_option maxHeartbeats 4000000 in
theorem t_L_isRefused (S : zSR R) (V : zV g U F T B ph s)  (p0 : (ph = 1 ∧ 2000 < T) ∨ ph = 2) (hQ0 : ∀ (m1 : Nat) (m2 : Nat), m1 ≤ nc + 1 → m2 ≤ ns + 6 → Q (.inl (some (.int (Int32.ofInt 1)))) (zN L X (zhi s) R G m1 m2)) : zW zro 164 0 (zfst [.ref 6] 2) [] (zN L X (zhi s) R G nc ns) Q := by
  show zW zro 164 0 [some (.ref 6), none] [] (zN L X (zhi s) R G nc ns) Q
  have f1 := zA_geo (zV_zA V)
  have hB0 := zV_B V
  have f2 := zV_sie V
  refine zW.run 2 (pc' := 2) (ls' := [some (.ref 6), none]) (st' := [.int (Int32.ofInt 1), .ref 6]) (σ' := (zN L X (zhi s) R G nc ns)) (fun n => rfl) ?_
  refine zW.callV rfl (by decide) rfl rfl rfl rfl rfl (Nat.le_of_ble_eq_true rfl) ?_
  refine t_S_ofSiege_1 S V ?_
  show zW zro 164 5 [some (.ref 6), none] [.int (Int32.ofInt (s 7 11))] (zN L X (zhi s) R G nc ns) Q
  refine zW.run 1 (pc' := 6) (ls' := [some (.ref 6), none]) (st' := [.int (Int32.ofInt 1), .int (Int32.ofInt (s 7 11))]) (σ' := (zN L X (zhi s) R G nc ns)) (fun n => rfl) ?_
  refine zW.jcmp_ne rfl (by omega) (fun c3 => ?_) (fun c3 => ?_)
  · skip
    have hp9 : ph = 2 := (by omega)
    subst hp9
    refine zW.run 2 (pc' := 28) (ls' := [some (.ref 6), none]) (st' := [.int (Int32.ofInt 1), .ref 6]) (σ' := (zN L X (zhi s) R G nc ns)) (fun n => rfl) ?_
    refine zW.callV rfl (by decide) rfl rfl rfl rfl rfl (Nat.le_of_ble_eq_true rfl) ?_
    refine t_S_pass_r S V (h := 1) (by omega) ?_
    refine ⟨Nat.le_of_ble_eq_true rfl, ?_⟩
    show zW zro 164 35 [some (.ref 6), none] [] (zN L X (zhi s) R G (nc + 1) (ns + 6)) Q
    refine zW.run 2 (pc' := 37) (ls' := [some (.ref 6), none]) (st' := [.int (Int32.ofInt 1), .ref 6]) (σ' := (zN L X (zhi s) R G (nc + 1) (ns + 6))) (fun n => rfl) ?_
    refine zW.callV rfl (by decide) rfl rfl rfl rfl rfl (Nat.le_of_ble_eq_true rfl) ?_
    refine t_S_ofSiege_1 S V ?_
    show zW zro 164 40 [some (.ref 6), none] [.int (Int32.ofInt (s 7 11))] (zN L X (zhi s) R G (nc + 1) (ns + 6)) Q
    refine zW.run 1 (pc' := 41) (ls' := [some (.ref 6), none]) (st' := [.int (Int32.ofInt 2), .int (Int32.ofInt (s 7 11))]) (σ' := (zN L X (zhi s) R G (nc + 1) (ns + 6))) (fun n => rfl) ?_
    refine zW.jcmp_ne rfl (by omega) (fun c4 => ?_) (fun c4 => ?_)
    · skip
      refine zW.run 1 (pc' := 49) (ls' := [some (.ref 6), none]) (st' := [.int (Int32.ofInt 0)]) (σ' := (zN L X (zhi s) R G (nc + 1) (ns + 6))) (fun n => rfl) ?_
      exfalso
      omega
    · skip
      refine zW.run 2 (pc' := 49) (ls' := [some (.ref 6), none]) (st' := [.int (Int32.ofInt 1)]) (σ' := (zN L X (zhi s) R G (nc + 1) (ns + 6))) (fun n => rfl) ?_
      exact zW.jretb rfl rfl (by decide) (hQ0 (nc + 1) (ns + 6) (by omega) (by omega))
  · skip
    refine zW.run 2 (pc' := 11) (ls' := [some (.ref 6), none]) (st' := [.int (Int32.ofInt 0), .ref 6]) (σ' := (zN L X (zhi s) R G nc ns)) (fun n => rfl) ?_
    refine zW.callV rfl (by decide) rfl rfl rfl rfl rfl (Nat.le_of_ble_eq_true rfl) ?_
    refine t_S_ofSiege_0 S V ?_
    show zW zro 164 14 [some (.ref 6), none] [.int (Int32.ofInt (s 7 10))] (zN L X (zhi s) R G nc ns) Q
    refine zW.run 1 (pc' := 17) (ls' := [some (.ref 6), none]) (st' := [.int (Int32.ofInt 2000), .int (Int32.ofInt (s 7 10))]) (σ' := (zN L X (zhi s) R G nc ns)) (fun n => rfl) ?_
    refine zW.jcmp_le rfl (by omega) (fun c5 => ?_) (fun c5 => ?_)
    · skip
      refine zW.run 1 (pc' := 25) (ls' := [some (.ref 6), none]) (st' := [.int (Int32.ofInt 0)]) (σ' := (zN L X (zhi s) R G nc ns)) (fun n => rfl) ?_
      exfalso
      omega
    · skip
      refine zW.run 2 (pc' := 25) (ls' := [some (.ref 6), none]) (st' := [.int (Int32.ofInt 1)]) (σ' := (zN L X (zhi s) R G nc ns)) (fun n => rfl) ?_
      exact zW.jretb rfl rfl (by decide) (hQ0 nc ns (by omega) (by omega))
set_option maxRecDepth 20000 in
set_option maxHeartbeats 4000000 in
theorem t_L_size (S : zSR R) (V : zV g U F T B ph s)  (p0 : g 0 * g 1 = g 2) (hQ0 : ∀ (v : Int) (m1 : Nat) (m2 : Nat), v = g 2 → m1 ≤ nc + 300 → m2 ≤ ns + 6000 → Q (.inl (some (.int (Int32.ofInt v)))) (zN L X (zhi s) R G m1 m2)) : zW zro 168 0 (zfst [.ref 6] 4) [] (zN L X (zhi s) R G nc ns) Q := by
  show zW zro 168 0 [some (.ref 6), none, none, none] [] (zN L X (zhi s) R G nc ns) Q
  have f1 := zA_geo (zV_zA V)
  have hB0 := zV_B V
  refine zW.run 4 (pc' := 4) (ls' := [some (.ref 6), some (.int (Int32.ofInt 0)), some (.int (Int32.ofInt 0)), none]) (st' := []) (σ' := (zN L X (zhi s) R G nc ns)) (fun n => rfl) ?_
  have J12 : ∀ m : Nat, ∀ (i_2 : Nat) (a_3 : Int) (w4 : Option Value) (m5 : Nat) (m6 : Nat), (i_2 : Int) ≤ g 1 → a_3 = g 0 * i_2 → 0 ≤ a_3 ∧ a_3 ≤ 12 * i_2 → m5 ≤ nc + 16 * i_2 → m6 ≤ ns + 400 * i_2 → 14 - i_2 < m → zW zro 168 4 [some (.ref 6), some (.int (Int32.ofInt (i_2 : Int))), some (.int (Int32.ofInt a_3)), w4] [] (zN L X (zhi s) R G m5 m6) Q := by
    intro m
    induction m with
    | zero => intros; omega
    | succ m ih13 =>
      intro i_2 a_3 w4 m5 m6 c7 c8 c9 c10 c11 hm14
      have hm : g 0 * ((i_2 + 1 : Nat) : Int) = g 0 * (i_2 : Int) + g 0 := by rw [show ((i_2 + 1 : Nat) : Int) = (i_2 : Int) + 1 from rfl, Int.mul_add, Int.mul_one]
      refine zW.run 2 (pc' := 7) (ls' := [some (.ref 6), some (.int (Int32.ofInt (i_2 : Int))), some (.int (Int32.ofInt a_3)), w4]) (st' := [.int (Int32.ofInt 13), .int (Int32.ofInt (i_2 : Int))]) (σ' := (zN L X (zhi s) R G m5 m6)) (fun n => rfl) ?_
      refine zW.jcmp_ge rfl (by omega) (fun c15 => ?_) (fun c15 => ?_)
      · skip
        refine zW.run 2 (pc' := 34) (ls' := [some (.ref 6), some (.int (Int32.ofInt (i_2 : Int))), some (.int (Int32.ofInt a_3)), w4]) (st' := [.int (Int32.ofInt a_3)]) (σ' := (zN L X (zhi s) R G m5 m6)) (fun n => rfl) ?_
        exact zW.jret rfl rfl (hQ0 a_3 m5 m6 (by omega) (by omega) (by omega))
      · skip
        refine zW.run 3 (pc' := 13) (ls' := [some (.ref 6), some (.int (Int32.ofInt (i_2 : Int))), some (.int (Int32.ofInt a_3)), w4]) (st' := [.int (Int32.ofInt (i_2 : Int)), .ref 6, .int (Int32.ofInt a_3)]) (σ' := (zN L X (zhi s) R G m5 m6)) (fun n => rfl) ?_
        refine zW.jrow S V rfl (by rfl) (by omega) (fun c16 c16b => ?_) (fun c16 => ?_)
        · skip
          refine zW.jadd rfl ?_
          refine zW.run 1 (pc' := 21) (ls' := [some (.ref 6), some (.int (Int32.ofInt (i_2 : Int))), some (.int (Int32.ofInt (a_3 + (g 0)))), w4]) (st' := []) (σ' := (zN L X (zhi s) R G (m5 + 16) (m6 + 400))) (fun n => rfl) ?_
          refine zW.jinc (ls' := [some (.ref 6), some (.int (Int32.ofInt ((i_2 : Int) + 1))), some (.int (Int32.ofInt (a_3 + (g 0)))), w4]) rfl (Nat.le_of_ble_eq_true rfl) rfl rfl ?_
          refine zW.run 1 (pc' := 4) (ls' := [some (.ref 6), some (.int (Int32.ofInt ((i_2 : Int) + 1))), some (.int (Int32.ofInt (a_3 + (g 0)))), w4]) (st' := []) (σ' := (zN L X (zhi s) R G (m5 + 16) (m6 + 400))) (fun n => rfl) ?_
          exact ih13 (i_2 + 1) (a_3 + (g 0)) w4 (m5 + 16) (m6 + 400) (by omega) (by omega) (by omega) (by omega) (by omega) (by omega)
        refine ⟨Nat.le_of_ble_eq_true rfl, ?_⟩
        show zW zro 168 31 [some (.ref 6), some (.int (Int32.ofInt (i_2 : Int))), some (.int (Int32.ofInt a_3)), none] [] (zN L X (zhi s) R G (m5 + 1) (m6 + 6)) Q
        refine zW.run 1 (pc' := 32) (ls' := [some (.ref 6), some (.int (Int32.ofInt (i_2 : Int))), some (.int (Int32.ofInt a_3)), none]) (st' := [.int (Int32.ofInt a_3)]) (σ' := (zN L X (zhi s) R G (m5 + 1) (m6 + 6))) (fun n => rfl) ?_
        exact zW.jret rfl rfl (hQ0 a_3 (m5 + 1) (m6 + 6) (by have e9 : (i_2 : Int) = g 1 := (by omega); have q9 : a_3 = g 0 * g 1 := (by rw [← e9]; assumption); omega) (by omega) (by omega))
  exact J12 _ 0 0 none nc ns (by omega) (by omega) (by omega) (by omega) (by omega) (Nat.lt_succ_self _)
set_option maxRecDepth 20000 in
set_option maxHeartbeats 4000000 in
theorem t_L_isDone (S : zSR R) (V : zV g U F T B ph s) {x : Int32} {n : Int} (p0 : n = g 2) (p1 : B + 200 ≤ 1000000000) (hQ0 : ∀ (q : Int) (s1 : zJ) (m1 : Nat) (m2 : Nat), zV g U F T (B + 200) q s1 → ph = 1 → q = 1 ∨ q = 2 → m1 ≤ nc + 100 → m2 ≤ ns + 1000 → Q (.inl (some (.int (Int32.ofInt 1)))) (zN L X (zhi s1) R G m1 m2)) (hQ1 : ∀ (m1 : Nat) (m2 : Nat), m1 ≤ nc + 100 → m2 ≤ ns + 1000 → Q (.inl (some (.int (Int32.ofInt 0)))) (zN L X (zhi s) R G m1 m2)) : zW zro 163 0 (zfst [.ref 6, .int x, .int (Int32.ofInt n)] 7) [] (zN L X (zhi s) R G nc ns) Q := by
  show zW zro 163 0 [some (.ref 6), some (.int x), some (.int (Int32.ofInt n)), none, none, none, none] [] (zN L X (zhi s) R G nc ns) Q
  have f1 := zA_geo (zV_zA V)
  have hB0 := zV_B V
  have f2 := zV_sie V
  refine zW.run 4 (pc' := 5) (ls' := [some (.ref 6), some (.int x), some (.int (Int32.ofInt n)), none, none, none, none]) (st' := [.int (Int32.ofInt 8), .int (x >>> ((Int32.ofInt 5) &&& 31))]) (σ' := (zN L X (zhi s) R G nc ns)) (fun n => rfl) ?_
  refine zW.callS rfl rfl rfl rfl rfl (Nat.le_of_ble_eq_true rfl) ?_
  refine t_L_below S (v := (x >>> ((Int32.ofInt 5) &&& 31))) (n := 8) (by omega) (fun k_3 f4 => ?_)
  show zW zro 163 8 [some (.ref 6), some (.int x), some (.int (Int32.ofInt n)), none, none, none, none] [.int (Int32.ofInt (k_3 : Int))] (zN L X (zhi s) R G nc ns) Q
  refine zW.run 5 (pc' := 14) (ls' := [some (.ref 6), some (.int x), some (.int (Int32.ofInt n)), some (.int (Int32.ofInt (k_3 : Int))), none, none, none]) (st' := [.int (Int32.ofInt 6), .int (x >>> ((Int32.ofInt 5) &&& 31))]) (σ' := (zN L X (zhi s) R G nc ns)) (fun n => rfl) ?_
  refine zW.callS rfl rfl rfl rfl rfl (Nat.le_of_ble_eq_true rfl) ?_
  refine t_L_below S (v := (x >>> ((Int32.ofInt 5) &&& 31))) (n := 6) (by omega) (fun k_5 f6 => ?_)
  show zW zro 163 17 [some (.ref 6), some (.int x), some (.int (Int32.ofInt n)), some (.int (Int32.ofInt (k_3 : Int))), none, none, none] [.int (Int32.ofInt (k_5 : Int))] (zN L X (zhi s) R G nc ns) Q
  refine zW.run 4 (pc' := 22) (ls' := [some (.ref 6), some (.int x), some (.int (Int32.ofInt n)), some (.int (Int32.ofInt (k_3 : Int))), some (.int (Int32.ofInt (k_5 : Int))), none, none]) (st' := [.int (Int32.ofInt 1), .int (Int32.ofInt n), .int (Int32.ofInt 0)]) (σ' := (zN L X (zhi s) R G nc ns)) (fun n => rfl) ?_
  refine zW.jsub rfl ?_
  refine zW.run 3 (pc' := 26) (ls' := [some (.ref 6), some (.int x), some (.int (Int32.ofInt n)), some (.int (Int32.ofInt (k_3 : Int))), some (.int (Int32.ofInt (k_5 : Int))), none, none]) (st' := [.int (Int32.ofInt 1), .int (Int32.ofInt (k_3 : Int)), .ref 6, .int (Int32.ofInt (n - 1)), .int (Int32.ofInt 0)]) (σ' := (zN L X (zhi s) R G nc ns)) (fun n => rfl) ?_
  refine zW.callV rfl (by decide) rfl rfl rfl rfl rfl (Nat.le_of_ble_eq_true rfl) ?_
  refine t_S_ofCompany_1 S V (i := k_3) (by omega) ?_
  show zW zro 163 29 [some (.ref 6), some (.int x), some (.int (Int32.ofInt n)), some (.int (Int32.ofInt (k_3 : Int))), some (.int (Int32.ofInt (k_5 : Int))), none, none] [.int (Int32.ofInt (s (42 + k_3) 1)), .int (Int32.ofInt (n - 1)), .int (Int32.ofInt 0)] (zN L X (zhi s) R G nc ns) Q
  have f7 := zV_com V (i := k_3) (by omega)
  refine zW.run 4 (pc' := 34) (ls' := [some (.ref 6), some (.int x), some (.int (Int32.ofInt n)), some (.int (Int32.ofInt (k_3 : Int))), some (.int (Int32.ofInt (k_5 : Int))), none, none]) (st' := [.int (Int32.ofInt 2), .int (x >>> ((Int32.ofInt 8) &&& 31)), .int (Int32.ofInt (s (42 + k_3) 1)), .int (Int32.ofInt (n - 1)), .int (Int32.ofInt 0)]) (σ' := (zN L X (zhi s) R G nc ns)) (fun n => rfl) ?_
  refine zW.callS rfl rfl rfl rfl rfl (Nat.le_of_ble_eq_true rfl) ?_
  refine t_L_below S (v := (x >>> ((Int32.ofInt 8) &&& 31))) (n := 2) (by omega) (fun k_8 f9 => ?_)
  show zW zro 163 37 [some (.ref 6), some (.int x), some (.int (Int32.ofInt n)), some (.int (Int32.ofInt (k_3 : Int))), some (.int (Int32.ofInt (k_5 : Int))), none, none] [.int (Int32.ofInt (k_8 : Int)), .int (Int32.ofInt (s (42 + k_3) 1)), .int (Int32.ofInt (n - 1)), .int (Int32.ofInt 0)] (zN L X (zhi s) R G nc ns) Q
  have J18 : ∀ (a_10 : Int) (w11 : Option Value) (w12 : Option Value) (m13 : Nat) (m14 : Nat), 1 ≤ a_10 ∧ a_10 ≤ 12 → m13 ≤ nc + 16 → m14 ≤ ns + 400 → zW zro 163 52 [some (.ref 6), some (.int x), some (.int (Int32.ofInt n)), some (.int (Int32.ofInt (k_3 : Int))), some (.int (Int32.ofInt (k_5 : Int))), w11, w12] [.int (Int32.ofInt a_10), .int (Int32.ofInt (s (42 + k_3) 1)), .int (Int32.ofInt (n - 1)), .int (Int32.ofInt 0)] (zN L X (zhi s) R G m13 m14) Q := by
    intro a_10 w11 w12 m13 m14 c15 c16 c17
    refine zW.run 4 (pc' := 57) (ls' := [some (.ref 6), some (.int x), some (.int (Int32.ofInt n)), some (.int (Int32.ofInt (k_3 : Int))), some (.int (Int32.ofInt (k_5 : Int))), w11, w12]) (st' := [.int (Int32.ofInt 3), .int (x >>> ((Int32.ofInt 9) &&& 31)), .int (Int32.ofInt a_10), .int (Int32.ofInt (s (42 + k_3) 1)), .int (Int32.ofInt (n - 1)), .int (Int32.ofInt 0)]) (σ' := (zN L X (zhi s) R G m13 m14)) (fun n => rfl) ?_
    refine zW.callS rfl rfl rfl rfl rfl (Nat.le_of_ble_eq_true rfl) ?_
    refine t_L_below S (v := (x >>> ((Int32.ofInt 9) &&& 31))) (n := 3) (by omega) (fun k_19 f20 => ?_)
    show zW zro 163 60 [some (.ref 6), some (.int x), some (.int (Int32.ofInt n)), some (.int (Int32.ofInt (k_3 : Int))), some (.int (Int32.ofInt (k_5 : Int))), w11, w12] [.int (Int32.ofInt (k_19 : Int)), .int (Int32.ofInt a_10), .int (Int32.ofInt (s (42 + k_3) 1)), .int (Int32.ofInt (n - 1)), .int (Int32.ofInt 0)] (zN L X (zhi s) R G m13 m14) Q
    have J22 : ∀ (v21 : Int), ((k_19 : Int) ≤ 0 ∧ v21 = (-1)) ∨ ((k_19 : Int) > 0 ∧ v21 = 1) → zW zro 163 68 [some (.ref 6), some (.int x), some (.int (Int32.ofInt n)), some (.int (Int32.ofInt (k_3 : Int))), some (.int (Int32.ofInt (k_5 : Int))), w11, w12] [.int (Int32.ofInt v21), .int (Int32.ofInt a_10), .int (Int32.ofInt (s (42 + k_3) 1)), .int (Int32.ofInt (n - 1)), .int (Int32.ofInt 0)] (zN L X (zhi s) R G m13 m14) Q := by
      intro v21 c23
      have hp := zpm (a := a_10) (b := v21) (by omega) (by omega)
      refine zW.jmul rfl ?_
      refine zW.jadd rfl ?_
      refine zW.callS rfl rfl rfl rfl rfl (Nat.le_of_ble_eq_true rfl) ?_
      refine t_Math_min S (x := (n - 1)) (y := ((s (42 + k_3) 1) + (a_10 * v21))) (by omega) (by omega) (fun v_24 f25 => ?_)
      show zW zro 163 73 [some (.ref 6), some (.int x), some (.int (Int32.ofInt n)), some (.int (Int32.ofInt (k_3 : Int))), some (.int (Int32.ofInt (k_5 : Int))), w11, w12] [.int (Int32.ofInt v_24), .int (Int32.ofInt 0)] (zN L X (zhi s) R G m13 m14) Q
      refine zW.callS rfl rfl rfl rfl rfl (Nat.le_of_ble_eq_true rfl) ?_
      refine t_Math_max S (x := 0) (y := v_24) (by omega) (by omega) (fun v_26 f27 => ?_)
      show zW zro 163 76 [some (.ref 6), some (.int x), some (.int (Int32.ofInt n)), some (.int (Int32.ofInt (k_3 : Int))), some (.int (Int32.ofInt (k_5 : Int))), w11, w12] [.int (Int32.ofInt v_26)] (zN L X (zhi s) R G m13 m14) Q
      refine zW.run 3 (pc' := 81) (ls' := [some (.ref 6), some (.int x), some (.int (Int32.ofInt n)), some (.int (Int32.ofInt (k_3 : Int))), some (.int (Int32.ofInt (k_5 : Int))), some (.int (Int32.ofInt v_26)), w12]) (st' := [.int (Int32.ofInt 19), .int x]) (σ' := (zN L X (zhi s) R G m13 m14)) (fun n => rfl) ?_
      refine zW.callS rfl rfl rfl rfl rfl (Nat.le_of_ble_eq_true rfl) ?_
      refine t_L_below S (v := x) (n := 19) (by omega) (fun k_28 f29 => ?_)
      show zW zro 163 84 [some (.ref 6), some (.int x), some (.int (Int32.ofInt n)), some (.int (Int32.ofInt (k_3 : Int))), some (.int (Int32.ofInt (k_5 : Int))), some (.int (Int32.ofInt v_26)), w12] [.int (Int32.ofInt (k_28 : Int))] (zN L X (zhi s) R G m13 m14) Q
      refine zW.jtab rfl (by omega) (fun d30 => ?_) (fun j9 t9 d30 f9 => ?_) (by decide)
      · skip
        refine zW.run 1 (pc' := 391) (ls' := [some (.ref 6), some (.int x), some (.int (Int32.ofInt n)), some (.int (Int32.ofInt (k_3 : Int))), some (.int (Int32.ofInt (k_5 : Int))), some (.int (Int32.ofInt v_26)), w12]) (st' := [.ref 6]) (σ' := (zN L X (zhi s) R G m13 m14)) (fun n => rfl) ?_
        refine zW.callV rfl (by decide) rfl rfl rfl rfl rfl (Nat.le_of_ble_eq_true rfl) ?_
        refine t_S_letter S V (fun v_31 s32 V33 f34 => ?_) ?_
        · skip
          show zW zro 163 394 [some (.ref 6), some (.int x), some (.int (Int32.ofInt n)), some (.int (Int32.ofInt (k_3 : Int))), some (.int (Int32.ofInt (k_5 : Int))), some (.int (Int32.ofInt v_26)), w12] [.int (Int32.ofInt v_31)] (zN L X (zhi s32) R G m13 m14) Q
          refine zW.run 2 (pc' := 396) (ls' := [some (.ref 6), some (.int x), some (.int (Int32.ofInt n)), some (.int (Int32.ofInt (k_3 : Int))), some (.int (Int32.ofInt (k_5 : Int))), some (.int (Int32.ofInt v_26)), w12]) (st' := [.int (Int32.ofInt 1)]) (σ' := (zN L X (zhi s32) R G m13 m14)) (fun n => rfl) ?_
          exact zW.jretb rfl rfl (by decide) (hQ0 ph s32 m13 m14 (zV_mono V33 (by omega) (by omega)) (by omega) (by omega) (by omega) (by omega))
        · skip
          refine ⟨Nat.le_of_ble_eq_true rfl, ?_⟩
          show zW zro 163 399 [some (.ref 6), some (.int x), some (.int (Int32.ofInt n)), some (.int (Int32.ofInt (k_3 : Int))), some (.int (Int32.ofInt (k_5 : Int))), some (.int (Int32.ofInt v_26)), none] [] (zN L X (zhi s) R G (m13 + 1) (m14 + 6)) Q
          refine zW.run 1 (pc' := 400) (ls' := [some (.ref 6), some (.int x), some (.int (Int32.ofInt n)), some (.int (Int32.ofInt (k_3 : Int))), some (.int (Int32.ofInt (k_5 : Int))), some (.int (Int32.ofInt v_26)), none]) (st' := [.int (Int32.ofInt 0)]) (σ' := (zN L X (zhi s) R G (m13 + 1) (m14 + 6))) (fun n => rfl) ?_
          exact zW.jretb rfl rfl (by decide) (hQ1 (m13 + 1) (m14 + 6) (by omega) (by omega))
      match j9, d30, f9 with
      | 0, d30, f9 =>
        cases f9
        refine zW.run 7 (pc' := 180) (ls' := [some (.ref 6), some (.int x), some (.int (Int32.ofInt n)), some (.int (Int32.ofInt (k_3 : Int))), some (.int (Int32.ofInt (k_5 : Int))), some (.int (Int32.ofInt v_26)), w12]) (st' := [.int (Int32.ofInt n), .int (x >>> ((Int32.ofInt 10) &&& 31)), .int (Int32.ofInt 4), .int (Int32.ofInt (k_3 : Int)), .ref 6]) (σ' := (zN L X (zhi s) R G m13 m14)) (fun n => rfl) ?_
        refine zW.callS rfl rfl rfl rfl rfl (Nat.le_of_ble_eq_true rfl) ?_
        refine t_L_below S (v := (x >>> ((Int32.ofInt 10) &&& 31))) (n := n) (by omega) (fun k_35 f36 => ?_)
        show zW zro 163 183 [some (.ref 6), some (.int x), some (.int (Int32.ofInt n)), some (.int (Int32.ofInt (k_3 : Int))), some (.int (Int32.ofInt (k_5 : Int))), some (.int (Int32.ofInt v_26)), w12] [.int (Int32.ofInt (k_35 : Int)), .int (Int32.ofInt 4), .int (Int32.ofInt (k_3 : Int)), .ref 6] (zN L X (zhi s) R G m13 m14) Q
        refine zW.callV rfl (by decide) rfl rfl rfl rfl rfl (Nat.le_of_ble_eq_true rfl) ?_
        refine t_S_order S V (i := k_3) (d := 4) (y := (k_35 : Int)) (by omega) (by omega) (by omega) (by omega) (by omega) (fun v_37 s38 V39 f40 => ?_) ?_
        · skip
          show zW zro 163 186 [some (.ref 6), some (.int x), some (.int (Int32.ofInt n)), some (.int (Int32.ofInt (k_3 : Int))), some (.int (Int32.ofInt (k_5 : Int))), some (.int (Int32.ofInt v_26)), w12] [.int (Int32.ofInt v_37)] (zN L X (zhi s38) R G m13 m14) Q
          refine zW.run 3 (pc' := 396) (ls' := [some (.ref 6), some (.int x), some (.int (Int32.ofInt n)), some (.int (Int32.ofInt (k_3 : Int))), some (.int (Int32.ofInt (k_5 : Int))), some (.int (Int32.ofInt v_26)), w12]) (st' := [.int (Int32.ofInt 1)]) (σ' := (zN L X (zhi s38) R G m13 m14)) (fun n => rfl) ?_
          exact zW.jretb rfl rfl (by decide) (hQ0 ph s38 m13 m14 (zV_mono V39 (by omega) (by omega)) (by omega) (by omega) (by omega) (by omega))
        · skip
          refine ⟨Nat.le_of_ble_eq_true rfl, ?_⟩
          show zW zro 163 399 [some (.ref 6), some (.int x), some (.int (Int32.ofInt n)), some (.int (Int32.ofInt (k_3 : Int))), some (.int (Int32.ofInt (k_5 : Int))), some (.int (Int32.ofInt v_26)), none] [] (zN L X (zhi s) R G (m13 + 1) (m14 + 6)) Q
          refine zW.run 1 (pc' := 400) (ls' := [some (.ref 6), some (.int x), some (.int (Int32.ofInt n)), some (.int (Int32.ofInt (k_3 : Int))), some (.int (Int32.ofInt (k_5 : Int))), some (.int (Int32.ofInt v_26)), none]) (st' := [.int (Int32.ofInt 0)]) (σ' := (zN L X (zhi s) R G (m13 + 1) (m14 + 6))) (fun n => rfl) ?_
          exact zW.jretb rfl rfl (by decide) (hQ1 (m13 + 1) (m14 + 6) (by omega) (by omega))
      | 1, d30, f9 =>
        cases f9
        refine zW.run 7 (pc' := 180) (ls' := [some (.ref 6), some (.int x), some (.int (Int32.ofInt n)), some (.int (Int32.ofInt (k_3 : Int))), some (.int (Int32.ofInt (k_5 : Int))), some (.int (Int32.ofInt v_26)), w12]) (st' := [.int (Int32.ofInt n), .int (x >>> ((Int32.ofInt 10) &&& 31)), .int (Int32.ofInt 4), .int (Int32.ofInt (k_3 : Int)), .ref 6]) (σ' := (zN L X (zhi s) R G m13 m14)) (fun n => rfl) ?_
        refine zW.callS rfl rfl rfl rfl rfl (Nat.le_of_ble_eq_true rfl) ?_
        refine t_L_below S (v := (x >>> ((Int32.ofInt 10) &&& 31))) (n := n) (by omega) (fun k_41 f42 => ?_)
        show zW zro 163 183 [some (.ref 6), some (.int x), some (.int (Int32.ofInt n)), some (.int (Int32.ofInt (k_3 : Int))), some (.int (Int32.ofInt (k_5 : Int))), some (.int (Int32.ofInt v_26)), w12] [.int (Int32.ofInt (k_41 : Int)), .int (Int32.ofInt 4), .int (Int32.ofInt (k_3 : Int)), .ref 6] (zN L X (zhi s) R G m13 m14) Q
        refine zW.callV rfl (by decide) rfl rfl rfl rfl rfl (Nat.le_of_ble_eq_true rfl) ?_
        refine t_S_order S V (i := k_3) (d := 4) (y := (k_41 : Int)) (by omega) (by omega) (by omega) (by omega) (by omega) (fun v_43 s44 V45 f46 => ?_) ?_
        · skip
          show zW zro 163 186 [some (.ref 6), some (.int x), some (.int (Int32.ofInt n)), some (.int (Int32.ofInt (k_3 : Int))), some (.int (Int32.ofInt (k_5 : Int))), some (.int (Int32.ofInt v_26)), w12] [.int (Int32.ofInt v_43)] (zN L X (zhi s44) R G m13 m14) Q
          refine zW.run 3 (pc' := 396) (ls' := [some (.ref 6), some (.int x), some (.int (Int32.ofInt n)), some (.int (Int32.ofInt (k_3 : Int))), some (.int (Int32.ofInt (k_5 : Int))), some (.int (Int32.ofInt v_26)), w12]) (st' := [.int (Int32.ofInt 1)]) (σ' := (zN L X (zhi s44) R G m13 m14)) (fun n => rfl) ?_
          exact zW.jretb rfl rfl (by decide) (hQ0 ph s44 m13 m14 (zV_mono V45 (by omega) (by omega)) (by omega) (by omega) (by omega) (by omega))
        · skip
          refine ⟨Nat.le_of_ble_eq_true rfl, ?_⟩
          show zW zro 163 399 [some (.ref 6), some (.int x), some (.int (Int32.ofInt n)), some (.int (Int32.ofInt (k_3 : Int))), some (.int (Int32.ofInt (k_5 : Int))), some (.int (Int32.ofInt v_26)), none] [] (zN L X (zhi s) R G (m13 + 1) (m14 + 6)) Q
          refine zW.run 1 (pc' := 400) (ls' := [some (.ref 6), some (.int x), some (.int (Int32.ofInt n)), some (.int (Int32.ofInt (k_3 : Int))), some (.int (Int32.ofInt (k_5 : Int))), some (.int (Int32.ofInt v_26)), none]) (st' := [.int (Int32.ofInt 0)]) (σ' := (zN L X (zhi s) R G (m13 + 1) (m14 + 6))) (fun n => rfl) ?_
          exact zW.jretb rfl rfl (by decide) (hQ1 (m13 + 1) (m14 + 6) (by omega) (by omega))
      | 2, d30, f9 =>
        cases f9
        refine zW.run 7 (pc' := 180) (ls' := [some (.ref 6), some (.int x), some (.int (Int32.ofInt n)), some (.int (Int32.ofInt (k_3 : Int))), some (.int (Int32.ofInt (k_5 : Int))), some (.int (Int32.ofInt v_26)), w12]) (st' := [.int (Int32.ofInt n), .int (x >>> ((Int32.ofInt 10) &&& 31)), .int (Int32.ofInt 4), .int (Int32.ofInt (k_3 : Int)), .ref 6]) (σ' := (zN L X (zhi s) R G m13 m14)) (fun n => rfl) ?_
        refine zW.callS rfl rfl rfl rfl rfl (Nat.le_of_ble_eq_true rfl) ?_
        refine t_L_below S (v := (x >>> ((Int32.ofInt 10) &&& 31))) (n := n) (by omega) (fun k_47 f48 => ?_)
        show zW zro 163 183 [some (.ref 6), some (.int x), some (.int (Int32.ofInt n)), some (.int (Int32.ofInt (k_3 : Int))), some (.int (Int32.ofInt (k_5 : Int))), some (.int (Int32.ofInt v_26)), w12] [.int (Int32.ofInt (k_47 : Int)), .int (Int32.ofInt 4), .int (Int32.ofInt (k_3 : Int)), .ref 6] (zN L X (zhi s) R G m13 m14) Q
        refine zW.callV rfl (by decide) rfl rfl rfl rfl rfl (Nat.le_of_ble_eq_true rfl) ?_
        refine t_S_order S V (i := k_3) (d := 4) (y := (k_47 : Int)) (by omega) (by omega) (by omega) (by omega) (by omega) (fun v_49 s50 V51 f52 => ?_) ?_
        · skip
          show zW zro 163 186 [some (.ref 6), some (.int x), some (.int (Int32.ofInt n)), some (.int (Int32.ofInt (k_3 : Int))), some (.int (Int32.ofInt (k_5 : Int))), some (.int (Int32.ofInt v_26)), w12] [.int (Int32.ofInt v_49)] (zN L X (zhi s50) R G m13 m14) Q
          refine zW.run 3 (pc' := 396) (ls' := [some (.ref 6), some (.int x), some (.int (Int32.ofInt n)), some (.int (Int32.ofInt (k_3 : Int))), some (.int (Int32.ofInt (k_5 : Int))), some (.int (Int32.ofInt v_26)), w12]) (st' := [.int (Int32.ofInt 1)]) (σ' := (zN L X (zhi s50) R G m13 m14)) (fun n => rfl) ?_
          exact zW.jretb rfl rfl (by decide) (hQ0 ph s50 m13 m14 (zV_mono V51 (by omega) (by omega)) (by omega) (by omega) (by omega) (by omega))
        · skip
          refine ⟨Nat.le_of_ble_eq_true rfl, ?_⟩
          show zW zro 163 399 [some (.ref 6), some (.int x), some (.int (Int32.ofInt n)), some (.int (Int32.ofInt (k_3 : Int))), some (.int (Int32.ofInt (k_5 : Int))), some (.int (Int32.ofInt v_26)), none] [] (zN L X (zhi s) R G (m13 + 1) (m14 + 6)) Q
          refine zW.run 1 (pc' := 400) (ls' := [some (.ref 6), some (.int x), some (.int (Int32.ofInt n)), some (.int (Int32.ofInt (k_3 : Int))), some (.int (Int32.ofInt (k_5 : Int))), some (.int (Int32.ofInt v_26)), none]) (st' := [.int (Int32.ofInt 0)]) (σ' := (zN L X (zhi s) R G (m13 + 1) (m14 + 6))) (fun n => rfl) ?_
          exact zW.jretb rfl rfl (by decide) (hQ1 (m13 + 1) (m14 + 6) (by omega) (by omega))
      | 3, d30, f9 =>
        cases f9
        refine zW.run 4 (pc' := 194) (ls' := [some (.ref 6), some (.int x), some (.int (Int32.ofInt n)), some (.int (Int32.ofInt (k_3 : Int))), some (.int (Int32.ofInt (k_5 : Int))), some (.int (Int32.ofInt v_26)), w12]) (st' := [.int (Int32.ofInt 4), .int (Int32.ofInt (k_3 : Int)), .int (Int32.ofInt (k_3 : Int)), .ref 6]) (σ' := (zN L X (zhi s) R G m13 m14)) (fun n => rfl) ?_
        have J54 : ∀ (v53 : Int), ((k_3 : Int) ≥ 4 ∧ v53 = 6) ∨ ((k_3 : Int) < 4 ∧ v53 = 1) → zW zro 163 203 [some (.ref 6), some (.int x), some (.int (Int32.ofInt n)), some (.int (Int32.ofInt (k_3 : Int))), some (.int (Int32.ofInt (k_5 : Int))), some (.int (Int32.ofInt v_26)), w12] [.int (Int32.ofInt v53), .int (Int32.ofInt (k_3 : Int)), .ref 6] (zN L X (zhi s) R G m13 m14) Q := by
          intro v53 c55
          refine zW.run 1 (pc' := 205) (ls' := [some (.ref 6), some (.int x), some (.int (Int32.ofInt n)), some (.int (Int32.ofInt (k_3 : Int))), some (.int (Int32.ofInt (k_5 : Int))), some (.int (Int32.ofInt v_26)), w12]) (st' := [.int (Int32.ofInt v_26), .int (Int32.ofInt v53), .int (Int32.ofInt (k_3 : Int)), .ref 6]) (σ' := (zN L X (zhi s) R G m13 m14)) (fun n => rfl) ?_
          refine zW.callV rfl (by decide) rfl rfl rfl rfl rfl (Nat.le_of_ble_eq_true rfl) ?_
          refine t_S_order S V (i := k_3) (d := v53) (y := v_26) (by omega) (by omega) (by omega) (by omega) (by omega) (fun v_56 s57 V58 f59 => ?_) ?_
          · skip
            show zW zro 163 208 [some (.ref 6), some (.int x), some (.int (Int32.ofInt n)), some (.int (Int32.ofInt (k_3 : Int))), some (.int (Int32.ofInt (k_5 : Int))), some (.int (Int32.ofInt v_26)), w12] [.int (Int32.ofInt v_56)] (zN L X (zhi s57) R G m13 m14) Q
            refine zW.run 3 (pc' := 396) (ls' := [some (.ref 6), some (.int x), some (.int (Int32.ofInt n)), some (.int (Int32.ofInt (k_3 : Int))), some (.int (Int32.ofInt (k_5 : Int))), some (.int (Int32.ofInt v_26)), w12]) (st' := [.int (Int32.ofInt 1)]) (σ' := (zN L X (zhi s57) R G m13 m14)) (fun n => rfl) ?_
            exact zW.jretb rfl rfl (by decide) (hQ0 ph s57 m13 m14 (zV_mono V58 (by omega) (by omega)) (by omega) (by omega) (by omega) (by omega))
          · skip
            refine ⟨Nat.le_of_ble_eq_true rfl, ?_⟩
            show zW zro 163 399 [some (.ref 6), some (.int x), some (.int (Int32.ofInt n)), some (.int (Int32.ofInt (k_3 : Int))), some (.int (Int32.ofInt (k_5 : Int))), some (.int (Int32.ofInt v_26)), none] [] (zN L X (zhi s) R G (m13 + 1) (m14 + 6)) Q
            refine zW.run 1 (pc' := 400) (ls' := [some (.ref 6), some (.int x), some (.int (Int32.ofInt n)), some (.int (Int32.ofInt (k_3 : Int))), some (.int (Int32.ofInt (k_5 : Int))), some (.int (Int32.ofInt v_26)), none]) (st' := [.int (Int32.ofInt 0)]) (σ' := (zN L X (zhi s) R G (m13 + 1) (m14 + 6))) (fun n => rfl) ?_
            exact zW.jretb rfl rfl (by decide) (hQ1 (m13 + 1) (m14 + 6) (by omega) (by omega))
        refine zW.jcmp_ge rfl (by omega) (fun c60 => ?_) (fun c60 => ?_)
        · skip
          refine zW.run 1 (pc' := 203) (ls' := [some (.ref 6), some (.int x), some (.int (Int32.ofInt n)), some (.int (Int32.ofInt (k_3 : Int))), some (.int (Int32.ofInt (k_5 : Int))), some (.int (Int32.ofInt v_26)), w12]) (st' := [.int (Int32.ofInt 6), .int (Int32.ofInt (k_3 : Int)), .ref 6]) (σ' := (zN L X (zhi s) R G m13 m14)) (fun n => rfl) ?_
          exact J54 6 (by omega)
        · skip
          refine zW.run 2 (pc' := 203) (ls' := [some (.ref 6), some (.int x), some (.int (Int32.ofInt n)), some (.int (Int32.ofInt (k_3 : Int))), some (.int (Int32.ofInt (k_5 : Int))), some (.int (Int32.ofInt v_26)), w12]) (st' := [.int (Int32.ofInt 1), .int (Int32.ofInt (k_3 : Int)), .ref 6]) (σ' := (zN L X (zhi s) R G m13 m14)) (fun n => rfl) ?_
          exact J54 1 (by omega)
      | 4, d30, f9 =>
        cases f9
        refine zW.run 4 (pc' := 194) (ls' := [some (.ref 6), some (.int x), some (.int (Int32.ofInt n)), some (.int (Int32.ofInt (k_3 : Int))), some (.int (Int32.ofInt (k_5 : Int))), some (.int (Int32.ofInt v_26)), w12]) (st' := [.int (Int32.ofInt 4), .int (Int32.ofInt (k_3 : Int)), .int (Int32.ofInt (k_3 : Int)), .ref 6]) (σ' := (zN L X (zhi s) R G m13 m14)) (fun n => rfl) ?_
        have J62 : ∀ (v61 : Int), ((k_3 : Int) ≥ 4 ∧ v61 = 6) ∨ ((k_3 : Int) < 4 ∧ v61 = 1) → zW zro 163 203 [some (.ref 6), some (.int x), some (.int (Int32.ofInt n)), some (.int (Int32.ofInt (k_3 : Int))), some (.int (Int32.ofInt (k_5 : Int))), some (.int (Int32.ofInt v_26)), w12] [.int (Int32.ofInt v61), .int (Int32.ofInt (k_3 : Int)), .ref 6] (zN L X (zhi s) R G m13 m14) Q := by
          intro v61 c63
          refine zW.run 1 (pc' := 205) (ls' := [some (.ref 6), some (.int x), some (.int (Int32.ofInt n)), some (.int (Int32.ofInt (k_3 : Int))), some (.int (Int32.ofInt (k_5 : Int))), some (.int (Int32.ofInt v_26)), w12]) (st' := [.int (Int32.ofInt v_26), .int (Int32.ofInt v61), .int (Int32.ofInt (k_3 : Int)), .ref 6]) (σ' := (zN L X (zhi s) R G m13 m14)) (fun n => rfl) ?_
          refine zW.callV rfl (by decide) rfl rfl rfl rfl rfl (Nat.le_of_ble_eq_true rfl) ?_
          refine t_S_order S V (i := k_3) (d := v61) (y := v_26) (by omega) (by omega) (by omega) (by omega) (by omega) (fun v_64 s65 V66 f67 => ?_) ?_
          · skip
            show zW zro 163 208 [some (.ref 6), some (.int x), some (.int (Int32.ofInt n)), some (.int (Int32.ofInt (k_3 : Int))), some (.int (Int32.ofInt (k_5 : Int))), some (.int (Int32.ofInt v_26)), w12] [.int (Int32.ofInt v_64)] (zN L X (zhi s65) R G m13 m14) Q
            refine zW.run 3 (pc' := 396) (ls' := [some (.ref 6), some (.int x), some (.int (Int32.ofInt n)), some (.int (Int32.ofInt (k_3 : Int))), some (.int (Int32.ofInt (k_5 : Int))), some (.int (Int32.ofInt v_26)), w12]) (st' := [.int (Int32.ofInt 1)]) (σ' := (zN L X (zhi s65) R G m13 m14)) (fun n => rfl) ?_
            exact zW.jretb rfl rfl (by decide) (hQ0 ph s65 m13 m14 (zV_mono V66 (by omega) (by omega)) (by omega) (by omega) (by omega) (by omega))
          · skip
            refine ⟨Nat.le_of_ble_eq_true rfl, ?_⟩
            show zW zro 163 399 [some (.ref 6), some (.int x), some (.int (Int32.ofInt n)), some (.int (Int32.ofInt (k_3 : Int))), some (.int (Int32.ofInt (k_5 : Int))), some (.int (Int32.ofInt v_26)), none] [] (zN L X (zhi s) R G (m13 + 1) (m14 + 6)) Q
            refine zW.run 1 (pc' := 400) (ls' := [some (.ref 6), some (.int x), some (.int (Int32.ofInt n)), some (.int (Int32.ofInt (k_3 : Int))), some (.int (Int32.ofInt (k_5 : Int))), some (.int (Int32.ofInt v_26)), none]) (st' := [.int (Int32.ofInt 0)]) (σ' := (zN L X (zhi s) R G (m13 + 1) (m14 + 6))) (fun n => rfl) ?_
            exact zW.jretb rfl rfl (by decide) (hQ1 (m13 + 1) (m14 + 6) (by omega) (by omega))
        refine zW.jcmp_ge rfl (by omega) (fun c68 => ?_) (fun c68 => ?_)
        · skip
          refine zW.run 1 (pc' := 203) (ls' := [some (.ref 6), some (.int x), some (.int (Int32.ofInt n)), some (.int (Int32.ofInt (k_3 : Int))), some (.int (Int32.ofInt (k_5 : Int))), some (.int (Int32.ofInt v_26)), w12]) (st' := [.int (Int32.ofInt 6), .int (Int32.ofInt (k_3 : Int)), .ref 6]) (σ' := (zN L X (zhi s) R G m13 m14)) (fun n => rfl) ?_
          exact J62 6 (by omega)
        · skip
          refine zW.run 2 (pc' := 203) (ls' := [some (.ref 6), some (.int x), some (.int (Int32.ofInt n)), some (.int (Int32.ofInt (k_3 : Int))), some (.int (Int32.ofInt (k_5 : Int))), some (.int (Int32.ofInt v_26)), w12]) (st' := [.int (Int32.ofInt 1), .int (Int32.ofInt (k_3 : Int)), .ref 6]) (σ' := (zN L X (zhi s) R G m13 m14)) (fun n => rfl) ?_
          exact J62 1 (by omega)
      | 5, d30, f9 =>
        cases f9
        refine zW.run 4 (pc' := 216) (ls' := [some (.ref 6), some (.int x), some (.int (Int32.ofInt n)), some (.int (Int32.ofInt (k_3 : Int))), some (.int (Int32.ofInt (k_5 : Int))), some (.int (Int32.ofInt v_26)), w12]) (st' := [.int (Int32.ofInt 0), .int (Int32.ofInt 2), .int (Int32.ofInt (k_3 : Int)), .ref 6]) (σ' := (zN L X (zhi s) R G m13 m14)) (fun n => rfl) ?_
        refine zW.callV rfl (by decide) rfl rfl rfl rfl rfl (Nat.le_of_ble_eq_true rfl) ?_
        refine t_S_order S V (i := k_3) (d := 2) (y := 0) (by omega) (by omega) (by omega) (by omega) (by omega) (fun v_69 s70 V71 f72 => ?_) ?_
        · skip
          show zW zro 163 219 [some (.ref 6), some (.int x), some (.int (Int32.ofInt n)), some (.int (Int32.ofInt (k_3 : Int))), some (.int (Int32.ofInt (k_5 : Int))), some (.int (Int32.ofInt v_26)), w12] [.int (Int32.ofInt v_69)] (zN L X (zhi s70) R G m13 m14) Q
          refine zW.run 3 (pc' := 396) (ls' := [some (.ref 6), some (.int x), some (.int (Int32.ofInt n)), some (.int (Int32.ofInt (k_3 : Int))), some (.int (Int32.ofInt (k_5 : Int))), some (.int (Int32.ofInt v_26)), w12]) (st' := [.int (Int32.ofInt 1)]) (σ' := (zN L X (zhi s70) R G m13 m14)) (fun n => rfl) ?_
          exact zW.jretb rfl rfl (by decide) (hQ0 ph s70 m13 m14 (zV_mono V71 (by omega) (by omega)) (by omega) (by omega) (by omega) (by omega))
        · skip
          refine ⟨Nat.le_of_ble_eq_true rfl, ?_⟩
          show zW zro 163 399 [some (.ref 6), some (.int x), some (.int (Int32.ofInt n)), some (.int (Int32.ofInt (k_3 : Int))), some (.int (Int32.ofInt (k_5 : Int))), some (.int (Int32.ofInt v_26)), none] [] (zN L X (zhi s) R G (m13 + 1) (m14 + 6)) Q
          refine zW.run 1 (pc' := 400) (ls' := [some (.ref 6), some (.int x), some (.int (Int32.ofInt n)), some (.int (Int32.ofInt (k_3 : Int))), some (.int (Int32.ofInt (k_5 : Int))), some (.int (Int32.ofInt v_26)), none]) (st' := [.int (Int32.ofInt 0)]) (σ' := (zN L X (zhi s) R G (m13 + 1) (m14 + 6))) (fun n => rfl) ?_
          exact zW.jretb rfl rfl (by decide) (hQ1 (m13 + 1) (m14 + 6) (by omega) (by omega))
      | 6, d30, f9 =>
        cases f9
        refine zW.run 4 (pc' := 227) (ls' := [some (.ref 6), some (.int x), some (.int (Int32.ofInt n)), some (.int (Int32.ofInt (k_3 : Int))), some (.int (Int32.ofInt (k_5 : Int))), some (.int (Int32.ofInt v_26)), w12]) (st' := [.int (Int32.ofInt 0), .int (Int32.ofInt 3), .int (Int32.ofInt (k_3 : Int)), .ref 6]) (σ' := (zN L X (zhi s) R G m13 m14)) (fun n => rfl) ?_
        refine zW.callV rfl (by decide) rfl rfl rfl rfl rfl (Nat.le_of_ble_eq_true rfl) ?_
        refine t_S_order S V (i := k_3) (d := 3) (y := 0) (by omega) (by omega) (by omega) (by omega) (by omega) (fun v_73 s74 V75 f76 => ?_) ?_
        · skip
          show zW zro 163 230 [some (.ref 6), some (.int x), some (.int (Int32.ofInt n)), some (.int (Int32.ofInt (k_3 : Int))), some (.int (Int32.ofInt (k_5 : Int))), some (.int (Int32.ofInt v_26)), w12] [.int (Int32.ofInt v_73)] (zN L X (zhi s74) R G m13 m14) Q
          refine zW.run 3 (pc' := 396) (ls' := [some (.ref 6), some (.int x), some (.int (Int32.ofInt n)), some (.int (Int32.ofInt (k_3 : Int))), some (.int (Int32.ofInt (k_5 : Int))), some (.int (Int32.ofInt v_26)), w12]) (st' := [.int (Int32.ofInt 1)]) (σ' := (zN L X (zhi s74) R G m13 m14)) (fun n => rfl) ?_
          exact zW.jretb rfl rfl (by decide) (hQ0 ph s74 m13 m14 (zV_mono V75 (by omega) (by omega)) (by omega) (by omega) (by omega) (by omega))
        · skip
          refine ⟨Nat.le_of_ble_eq_true rfl, ?_⟩
          show zW zro 163 399 [some (.ref 6), some (.int x), some (.int (Int32.ofInt n)), some (.int (Int32.ofInt (k_3 : Int))), some (.int (Int32.ofInt (k_5 : Int))), some (.int (Int32.ofInt v_26)), none] [] (zN L X (zhi s) R G (m13 + 1) (m14 + 6)) Q
          refine zW.run 1 (pc' := 400) (ls' := [some (.ref 6), some (.int x), some (.int (Int32.ofInt n)), some (.int (Int32.ofInt (k_3 : Int))), some (.int (Int32.ofInt (k_5 : Int))), some (.int (Int32.ofInt v_26)), none]) (st' := [.int (Int32.ofInt 0)]) (σ' := (zN L X (zhi s) R G (m13 + 1) (m14 + 6))) (fun n => rfl) ?_
          exact zW.jretb rfl rfl (by decide) (hQ1 (m13 + 1) (m14 + 6) (by omega) (by omega))
      | 7, d30, f9 =>
        cases f9
        refine zW.run 4 (pc' := 239) (ls' := [some (.ref 6), some (.int x), some (.int (Int32.ofInt n)), some (.int (Int32.ofInt (k_3 : Int))), some (.int (Int32.ofInt (k_5 : Int))), some (.int (Int32.ofInt v_26)), w12]) (st' := [.int (Int32.ofInt v_26), .int (Int32.ofInt 5), .int (Int32.ofInt (k_3 : Int)), .ref 6]) (σ' := (zN L X (zhi s) R G m13 m14)) (fun n => rfl) ?_
        refine zW.callV rfl (by decide) rfl rfl rfl rfl rfl (Nat.le_of_ble_eq_true rfl) ?_
        refine t_S_order S V (i := k_3) (d := 5) (y := v_26) (by omega) (by omega) (by omega) (by omega) (by omega) (fun v_77 s78 V79 f80 => ?_) ?_
        · skip
          show zW zro 163 242 [some (.ref 6), some (.int x), some (.int (Int32.ofInt n)), some (.int (Int32.ofInt (k_3 : Int))), some (.int (Int32.ofInt (k_5 : Int))), some (.int (Int32.ofInt v_26)), w12] [.int (Int32.ofInt v_77)] (zN L X (zhi s78) R G m13 m14) Q
          refine zW.run 3 (pc' := 396) (ls' := [some (.ref 6), some (.int x), some (.int (Int32.ofInt n)), some (.int (Int32.ofInt (k_3 : Int))), some (.int (Int32.ofInt (k_5 : Int))), some (.int (Int32.ofInt v_26)), w12]) (st' := [.int (Int32.ofInt 1)]) (σ' := (zN L X (zhi s78) R G m13 m14)) (fun n => rfl) ?_
          exact zW.jretb rfl rfl (by decide) (hQ0 ph s78 m13 m14 (zV_mono V79 (by omega) (by omega)) (by omega) (by omega) (by omega) (by omega))
        · skip
          refine ⟨Nat.le_of_ble_eq_true rfl, ?_⟩
          show zW zro 163 399 [some (.ref 6), some (.int x), some (.int (Int32.ofInt n)), some (.int (Int32.ofInt (k_3 : Int))), some (.int (Int32.ofInt (k_5 : Int))), some (.int (Int32.ofInt v_26)), none] [] (zN L X (zhi s) R G (m13 + 1) (m14 + 6)) Q
          refine zW.run 1 (pc' := 400) (ls' := [some (.ref 6), some (.int x), some (.int (Int32.ofInt n)), some (.int (Int32.ofInt (k_3 : Int))), some (.int (Int32.ofInt (k_5 : Int))), some (.int (Int32.ofInt v_26)), none]) (st' := [.int (Int32.ofInt 0)]) (σ' := (zN L X (zhi s) R G (m13 + 1) (m14 + 6))) (fun n => rfl) ?_
          exact zW.jretb rfl rfl (by decide) (hQ1 (m13 + 1) (m14 + 6) (by omega) (by omega))
      | 8, d30, f9 =>
        cases f9
        refine zW.run 4 (pc' := 250) (ls' := [some (.ref 6), some (.int x), some (.int (Int32.ofInt n)), some (.int (Int32.ofInt (k_3 : Int))), some (.int (Int32.ofInt (k_5 : Int))), some (.int (Int32.ofInt v_26)), w12]) (st' := [.int (Int32.ofInt 0), .int (Int32.ofInt 0), .int (Int32.ofInt (k_3 : Int)), .ref 6]) (σ' := (zN L X (zhi s) R G m13 m14)) (fun n => rfl) ?_
        refine zW.callV rfl (by decide) rfl rfl rfl rfl rfl (Nat.le_of_ble_eq_true rfl) ?_
        refine t_S_order S V (i := k_3) (d := 0) (y := 0) (by omega) (by omega) (by omega) (by omega) (by omega) (fun v_81 s82 V83 f84 => ?_) ?_
        · skip
          show zW zro 163 253 [some (.ref 6), some (.int x), some (.int (Int32.ofInt n)), some (.int (Int32.ofInt (k_3 : Int))), some (.int (Int32.ofInt (k_5 : Int))), some (.int (Int32.ofInt v_26)), w12] [.int (Int32.ofInt v_81)] (zN L X (zhi s82) R G m13 m14) Q
          refine zW.run 3 (pc' := 396) (ls' := [some (.ref 6), some (.int x), some (.int (Int32.ofInt n)), some (.int (Int32.ofInt (k_3 : Int))), some (.int (Int32.ofInt (k_5 : Int))), some (.int (Int32.ofInt v_26)), w12]) (st' := [.int (Int32.ofInt 1)]) (σ' := (zN L X (zhi s82) R G m13 m14)) (fun n => rfl) ?_
          exact zW.jretb rfl rfl (by decide) (hQ0 ph s82 m13 m14 (zV_mono V83 (by omega) (by omega)) (by omega) (by omega) (by omega) (by omega))
        · skip
          refine ⟨Nat.le_of_ble_eq_true rfl, ?_⟩
          show zW zro 163 399 [some (.ref 6), some (.int x), some (.int (Int32.ofInt n)), some (.int (Int32.ofInt (k_3 : Int))), some (.int (Int32.ofInt (k_5 : Int))), some (.int (Int32.ofInt v_26)), none] [] (zN L X (zhi s) R G (m13 + 1) (m14 + 6)) Q
          refine zW.run 1 (pc' := 400) (ls' := [some (.ref 6), some (.int x), some (.int (Int32.ofInt n)), some (.int (Int32.ofInt (k_3 : Int))), some (.int (Int32.ofInt (k_5 : Int))), some (.int (Int32.ofInt v_26)), none]) (st' := [.int (Int32.ofInt 0)]) (σ' := (zN L X (zhi s) R G (m13 + 1) (m14 + 6))) (fun n => rfl) ?_
          exact zW.jretb rfl rfl (by decide) (hQ1 (m13 + 1) (m14 + 6) (by omega) (by omega))
      | 9, d30, f9 =>
        cases f9
        refine zW.run 4 (pc' := 263) (ls' := [some (.ref 6), some (.int x), some (.int (Int32.ofInt n)), some (.int (Int32.ofInt (k_3 : Int))), some (.int (Int32.ofInt (k_5 : Int))), some (.int (Int32.ofInt v_26)), w12]) (st' := [.int (Int32.ofInt (k_5 : Int)), .ref 6, .int (Int32.ofInt (k_5 : Int)), .ref 6]) (σ' := (zN L X (zhi s) R G m13 m14)) (fun n => rfl) ?_
        refine zW.callV rfl (by decide) rfl rfl rfl rfl rfl (Nat.le_of_ble_eq_true rfl) ?_
        refine t_S_target S V (i := k_5) (by omega) (fun v_85 f86 => ?_)
        show zW zro 163 266 [some (.ref 6), some (.int x), some (.int (Int32.ofInt n)), some (.int (Int32.ofInt (k_3 : Int))), some (.int (Int32.ofInt (k_5 : Int))), some (.int (Int32.ofInt v_26)), w12] [.int (Int32.ofInt v_85), .int (Int32.ofInt (k_5 : Int)), .ref 6] (zN L X (zhi s) R G m13 m14) Q
        refine zW.callV rfl (by decide) rfl rfl rfl rfl rfl (Nat.le_of_ble_eq_true rfl) ?_
        refine t_S_aim S V (i := k_5) (y := v_85) (by omega) (by omega) (fun v_87 s88 V89 f90 => ?_) ?_
        · skip
          show zW zro 163 269 [some (.ref 6), some (.int x), some (.int (Int32.ofInt n)), some (.int (Int32.ofInt (k_3 : Int))), some (.int (Int32.ofInt (k_5 : Int))), some (.int (Int32.ofInt v_26)), w12] [.int (Int32.ofInt v_87)] (zN L X (zhi s88) R G m13 m14) Q
          refine zW.run 3 (pc' := 396) (ls' := [some (.ref 6), some (.int x), some (.int (Int32.ofInt n)), some (.int (Int32.ofInt (k_3 : Int))), some (.int (Int32.ofInt (k_5 : Int))), some (.int (Int32.ofInt v_26)), w12]) (st' := [.int (Int32.ofInt 1)]) (σ' := (zN L X (zhi s88) R G m13 m14)) (fun n => rfl) ?_
          exact zW.jretb rfl rfl (by decide) (hQ0 ph s88 m13 m14 (zV_mono V89 (by omega) (by omega)) (by omega) (by omega) (by omega) (by omega))
        · skip
          refine ⟨Nat.le_of_ble_eq_true rfl, ?_⟩
          show zW zro 163 399 [some (.ref 6), some (.int x), some (.int (Int32.ofInt n)), some (.int (Int32.ofInt (k_3 : Int))), some (.int (Int32.ofInt (k_5 : Int))), some (.int (Int32.ofInt v_26)), none] [] (zN L X (zhi s) R G (m13 + 1) (m14 + 6)) Q
          refine zW.run 1 (pc' := 400) (ls' := [some (.ref 6), some (.int x), some (.int (Int32.ofInt n)), some (.int (Int32.ofInt (k_3 : Int))), some (.int (Int32.ofInt (k_5 : Int))), some (.int (Int32.ofInt v_26)), none]) (st' := [.int (Int32.ofInt 0)]) (σ' := (zN L X (zhi s) R G (m13 + 1) (m14 + 6))) (fun n => rfl) ?_
          exact zW.jretb rfl rfl (by decide) (hQ1 (m13 + 1) (m14 + 6) (by omega) (by omega))
      | 10, d30, f9 =>
        cases f9
        refine zW.run 4 (pc' := 263) (ls' := [some (.ref 6), some (.int x), some (.int (Int32.ofInt n)), some (.int (Int32.ofInt (k_3 : Int))), some (.int (Int32.ofInt (k_5 : Int))), some (.int (Int32.ofInt v_26)), w12]) (st' := [.int (Int32.ofInt (k_5 : Int)), .ref 6, .int (Int32.ofInt (k_5 : Int)), .ref 6]) (σ' := (zN L X (zhi s) R G m13 m14)) (fun n => rfl) ?_
        refine zW.callV rfl (by decide) rfl rfl rfl rfl rfl (Nat.le_of_ble_eq_true rfl) ?_
        refine t_S_target S V (i := k_5) (by omega) (fun v_91 f92 => ?_)
        show zW zro 163 266 [some (.ref 6), some (.int x), some (.int (Int32.ofInt n)), some (.int (Int32.ofInt (k_3 : Int))), some (.int (Int32.ofInt (k_5 : Int))), some (.int (Int32.ofInt v_26)), w12] [.int (Int32.ofInt v_91), .int (Int32.ofInt (k_5 : Int)), .ref 6] (zN L X (zhi s) R G m13 m14) Q
        refine zW.callV rfl (by decide) rfl rfl rfl rfl rfl (Nat.le_of_ble_eq_true rfl) ?_
        refine t_S_aim S V (i := k_5) (y := v_91) (by omega) (by omega) (fun v_93 s94 V95 f96 => ?_) ?_
        · skip
          show zW zro 163 269 [some (.ref 6), some (.int x), some (.int (Int32.ofInt n)), some (.int (Int32.ofInt (k_3 : Int))), some (.int (Int32.ofInt (k_5 : Int))), some (.int (Int32.ofInt v_26)), w12] [.int (Int32.ofInt v_93)] (zN L X (zhi s94) R G m13 m14) Q
          refine zW.run 3 (pc' := 396) (ls' := [some (.ref 6), some (.int x), some (.int (Int32.ofInt n)), some (.int (Int32.ofInt (k_3 : Int))), some (.int (Int32.ofInt (k_5 : Int))), some (.int (Int32.ofInt v_26)), w12]) (st' := [.int (Int32.ofInt 1)]) (σ' := (zN L X (zhi s94) R G m13 m14)) (fun n => rfl) ?_
          exact zW.jretb rfl rfl (by decide) (hQ0 ph s94 m13 m14 (zV_mono V95 (by omega) (by omega)) (by omega) (by omega) (by omega) (by omega))
        · skip
          refine ⟨Nat.le_of_ble_eq_true rfl, ?_⟩
          show zW zro 163 399 [some (.ref 6), some (.int x), some (.int (Int32.ofInt n)), some (.int (Int32.ofInt (k_3 : Int))), some (.int (Int32.ofInt (k_5 : Int))), some (.int (Int32.ofInt v_26)), none] [] (zN L X (zhi s) R G (m13 + 1) (m14 + 6)) Q
          refine zW.run 1 (pc' := 400) (ls' := [some (.ref 6), some (.int x), some (.int (Int32.ofInt n)), some (.int (Int32.ofInt (k_3 : Int))), some (.int (Int32.ofInt (k_5 : Int))), some (.int (Int32.ofInt v_26)), none]) (st' := [.int (Int32.ofInt 0)]) (σ' := (zN L X (zhi s) R G (m13 + 1) (m14 + 6))) (fun n => rfl) ?_
          exact zW.jretb rfl rfl (by decide) (hQ1 (m13 + 1) (m14 + 6) (by omega) (by omega))
      | 11, d30, f9 =>
        cases f9
        refine zW.run 4 (pc' := 263) (ls' := [some (.ref 6), some (.int x), some (.int (Int32.ofInt n)), some (.int (Int32.ofInt (k_3 : Int))), some (.int (Int32.ofInt (k_5 : Int))), some (.int (Int32.ofInt v_26)), w12]) (st' := [.int (Int32.ofInt (k_5 : Int)), .ref 6, .int (Int32.ofInt (k_5 : Int)), .ref 6]) (σ' := (zN L X (zhi s) R G m13 m14)) (fun n => rfl) ?_
        refine zW.callV rfl (by decide) rfl rfl rfl rfl rfl (Nat.le_of_ble_eq_true rfl) ?_
        refine t_S_target S V (i := k_5) (by omega) (fun v_97 f98 => ?_)
        show zW zro 163 266 [some (.ref 6), some (.int x), some (.int (Int32.ofInt n)), some (.int (Int32.ofInt (k_3 : Int))), some (.int (Int32.ofInt (k_5 : Int))), some (.int (Int32.ofInt v_26)), w12] [.int (Int32.ofInt v_97), .int (Int32.ofInt (k_5 : Int)), .ref 6] (zN L X (zhi s) R G m13 m14) Q
        refine zW.callV rfl (by decide) rfl rfl rfl rfl rfl (Nat.le_of_ble_eq_true rfl) ?_
        refine t_S_aim S V (i := k_5) (y := v_97) (by omega) (by omega) (fun v_99 s100 V101 f102 => ?_) ?_
        · skip
          show zW zro 163 269 [some (.ref 6), some (.int x), some (.int (Int32.ofInt n)), some (.int (Int32.ofInt (k_3 : Int))), some (.int (Int32.ofInt (k_5 : Int))), some (.int (Int32.ofInt v_26)), w12] [.int (Int32.ofInt v_99)] (zN L X (zhi s100) R G m13 m14) Q
          refine zW.run 3 (pc' := 396) (ls' := [some (.ref 6), some (.int x), some (.int (Int32.ofInt n)), some (.int (Int32.ofInt (k_3 : Int))), some (.int (Int32.ofInt (k_5 : Int))), some (.int (Int32.ofInt v_26)), w12]) (st' := [.int (Int32.ofInt 1)]) (σ' := (zN L X (zhi s100) R G m13 m14)) (fun n => rfl) ?_
          exact zW.jretb rfl rfl (by decide) (hQ0 ph s100 m13 m14 (zV_mono V101 (by omega) (by omega)) (by omega) (by omega) (by omega) (by omega))
        · skip
          refine ⟨Nat.le_of_ble_eq_true rfl, ?_⟩
          show zW zro 163 399 [some (.ref 6), some (.int x), some (.int (Int32.ofInt n)), some (.int (Int32.ofInt (k_3 : Int))), some (.int (Int32.ofInt (k_5 : Int))), some (.int (Int32.ofInt v_26)), none] [] (zN L X (zhi s) R G (m13 + 1) (m14 + 6)) Q
          refine zW.run 1 (pc' := 400) (ls' := [some (.ref 6), some (.int x), some (.int (Int32.ofInt n)), some (.int (Int32.ofInt (k_3 : Int))), some (.int (Int32.ofInt (k_5 : Int))), some (.int (Int32.ofInt v_26)), none]) (st' := [.int (Int32.ofInt 0)]) (σ' := (zN L X (zhi s) R G (m13 + 1) (m14 + 6))) (fun n => rfl) ?_
          exact zW.jretb rfl rfl (by decide) (hQ1 (m13 + 1) (m14 + 6) (by omega) (by omega))
      | 12, d30, f9 =>
        cases f9
        refine zW.run 6 (pc' := 281) (ls' := [some (.ref 6), some (.int x), some (.int (Int32.ofInt n)), some (.int (Int32.ofInt (k_3 : Int))), some (.int (Int32.ofInt (k_5 : Int))), some (.int (Int32.ofInt v_26)), w12]) (st' := [.int (Int32.ofInt n), .int (x >>> ((Int32.ofInt 10) &&& 31)), .int (Int32.ofInt (k_5 : Int)), .ref 6]) (σ' := (zN L X (zhi s) R G m13 m14)) (fun n => rfl) ?_
        refine zW.callS rfl rfl rfl rfl rfl (Nat.le_of_ble_eq_true rfl) ?_
        refine t_L_below S (v := (x >>> ((Int32.ofInt 10) &&& 31))) (n := n) (by omega) (fun k_103 f104 => ?_)
        show zW zro 163 284 [some (.ref 6), some (.int x), some (.int (Int32.ofInt n)), some (.int (Int32.ofInt (k_3 : Int))), some (.int (Int32.ofInt (k_5 : Int))), some (.int (Int32.ofInt v_26)), w12] [.int (Int32.ofInt (k_103 : Int)), .int (Int32.ofInt (k_5 : Int)), .ref 6] (zN L X (zhi s) R G m13 m14) Q
        refine zW.callV rfl (by decide) rfl rfl rfl rfl rfl (Nat.le_of_ble_eq_true rfl) ?_
        refine t_S_aim S V (i := k_5) (y := (k_103 : Int)) (by omega) (by omega) (fun v_105 s106 V107 f108 => ?_) ?_
        · skip
          show zW zro 163 287 [some (.ref 6), some (.int x), some (.int (Int32.ofInt n)), some (.int (Int32.ofInt (k_3 : Int))), some (.int (Int32.ofInt (k_5 : Int))), some (.int (Int32.ofInt v_26)), w12] [.int (Int32.ofInt v_105)] (zN L X (zhi s106) R G m13 m14) Q
          refine zW.run 3 (pc' := 396) (ls' := [some (.ref 6), some (.int x), some (.int (Int32.ofInt n)), some (.int (Int32.ofInt (k_3 : Int))), some (.int (Int32.ofInt (k_5 : Int))), some (.int (Int32.ofInt v_26)), w12]) (st' := [.int (Int32.ofInt 1)]) (σ' := (zN L X (zhi s106) R G m13 m14)) (fun n => rfl) ?_
          exact zW.jretb rfl rfl (by decide) (hQ0 ph s106 m13 m14 (zV_mono V107 (by omega) (by omega)) (by omega) (by omega) (by omega) (by omega))
        · skip
          refine ⟨Nat.le_of_ble_eq_true rfl, ?_⟩
          show zW zro 163 399 [some (.ref 6), some (.int x), some (.int (Int32.ofInt n)), some (.int (Int32.ofInt (k_3 : Int))), some (.int (Int32.ofInt (k_5 : Int))), some (.int (Int32.ofInt v_26)), none] [] (zN L X (zhi s) R G (m13 + 1) (m14 + 6)) Q
          refine zW.run 1 (pc' := 400) (ls' := [some (.ref 6), some (.int x), some (.int (Int32.ofInt n)), some (.int (Int32.ofInt (k_3 : Int))), some (.int (Int32.ofInt (k_5 : Int))), some (.int (Int32.ofInt v_26)), none]) (st' := [.int (Int32.ofInt 0)]) (σ' := (zN L X (zhi s) R G (m13 + 1) (m14 + 6))) (fun n => rfl) ?_
          exact zW.jretb rfl rfl (by decide) (hQ1 (m13 + 1) (m14 + 6) (by omega) (by omega))
      | 13, d30, f9 =>
        cases f9
        refine zW.run 5 (pc' := 297) (ls' := [some (.ref 6), some (.int x), some (.int (Int32.ofInt n)), some (.int (Int32.ofInt (k_3 : Int))), some (.int (Int32.ofInt (k_5 : Int))), some (.int (Int32.ofInt v_26)), w12]) (st' := [.int (Int32.ofInt 1), .int (Int32.ofInt n), .int (Int32.ofInt 0), .int (Int32.ofInt (k_5 : Int)), .ref 6]) (σ' := (zN L X (zhi s) R G m13 m14)) (fun n => rfl) ?_
        refine zW.jsub rfl ?_
        refine zW.run 3 (pc' := 302) (ls' := [some (.ref 6), some (.int x), some (.int (Int32.ofInt n)), some (.int (Int32.ofInt (k_3 : Int))), some (.int (Int32.ofInt (k_5 : Int))), some (.int (Int32.ofInt v_26)), w12]) (st' := [.int (Int32.ofInt 1), .int (Int32.ofInt (k_5 : Int)), .ref 6, .int (Int32.ofInt (n - 1)), .int (Int32.ofInt 0), .int (Int32.ofInt (k_5 : Int)), .ref 6]) (σ' := (zN L X (zhi s) R G m13 m14)) (fun n => rfl) ?_
        refine zW.callV rfl (by decide) rfl rfl rfl rfl rfl (Nat.le_of_ble_eq_true rfl) ?_
        refine t_S_ofGun_1 S V (i := k_5) (by omega) ?_
        show zW zro 163 305 [some (.ref 6), some (.int x), some (.int (Int32.ofInt n)), some (.int (Int32.ofInt (k_3 : Int))), some (.int (Int32.ofInt (k_5 : Int))), some (.int (Int32.ofInt v_26)), w12] [.int (Int32.ofInt (s (26 + k_5) 1)), .int (Int32.ofInt (n - 1)), .int (Int32.ofInt 0), .int (Int32.ofInt (k_5 : Int)), .ref 6] (zN L X (zhi s) R G m13 m14) Q
        have f109 := zV_gun V (i := k_5) (by omega)
        refine zW.run 1 (pc' := 306) (ls' := [some (.ref 6), some (.int x), some (.int (Int32.ofInt n)), some (.int (Int32.ofInt (k_3 : Int))), some (.int (Int32.ofInt (k_5 : Int))), some (.int (Int32.ofInt v_26)), w12]) (st' := [.int (Int32.ofInt 1), .int (Int32.ofInt (s (26 + k_5) 1)), .int (Int32.ofInt (n - 1)), .int (Int32.ofInt 0), .int (Int32.ofInt (k_5 : Int)), .ref 6]) (σ' := (zN L X (zhi s) R G m13 m14)) (fun n => rfl) ?_
        refine zW.jadd rfl ?_
        refine zW.callS rfl rfl rfl rfl rfl (Nat.le_of_ble_eq_true rfl) ?_
        refine t_Math_min S (x := (n - 1)) (y := ((s (26 + k_5) 1) + 1)) (by omega) (by omega) (fun v_110 f111 => ?_)
        show zW zro 163 310 [some (.ref 6), some (.int x), some (.int (Int32.ofInt n)), some (.int (Int32.ofInt (k_3 : Int))), some (.int (Int32.ofInt (k_5 : Int))), some (.int (Int32.ofInt v_26)), w12] [.int (Int32.ofInt v_110), .int (Int32.ofInt 0), .int (Int32.ofInt (k_5 : Int)), .ref 6] (zN L X (zhi s) R G m13 m14) Q
        refine zW.callS rfl rfl rfl rfl rfl (Nat.le_of_ble_eq_true rfl) ?_
        refine t_Math_max S (x := 0) (y := v_110) (by omega) (by omega) (fun v_112 f113 => ?_)
        show zW zro 163 313 [some (.ref 6), some (.int x), some (.int (Int32.ofInt n)), some (.int (Int32.ofInt (k_3 : Int))), some (.int (Int32.ofInt (k_5 : Int))), some (.int (Int32.ofInt v_26)), w12] [.int (Int32.ofInt v_112), .int (Int32.ofInt (k_5 : Int)), .ref 6] (zN L X (zhi s) R G m13 m14) Q
        refine zW.callV rfl (by decide) rfl rfl rfl rfl rfl (Nat.le_of_ble_eq_true rfl) ?_
        refine t_S_haul S V (i := k_5) (y := v_112) (by omega) (by omega) (fun v_114 s115 V116 f117 => ?_) ?_
        · skip
          show zW zro 163 316 [some (.ref 6), some (.int x), some (.int (Int32.ofInt n)), some (.int (Int32.ofInt (k_3 : Int))), some (.int (Int32.ofInt (k_5 : Int))), some (.int (Int32.ofInt v_26)), w12] [.int (Int32.ofInt v_114)] (zN L X (zhi s115) R G m13 m14) Q
          refine zW.run 3 (pc' := 396) (ls' := [some (.ref 6), some (.int x), some (.int (Int32.ofInt n)), some (.int (Int32.ofInt (k_3 : Int))), some (.int (Int32.ofInt (k_5 : Int))), some (.int (Int32.ofInt v_26)), w12]) (st' := [.int (Int32.ofInt 1)]) (σ' := (zN L X (zhi s115) R G m13 m14)) (fun n => rfl) ?_
          exact zW.jretb rfl rfl (by decide) (hQ0 ph s115 m13 m14 (zV_mono V116 (by omega) (by omega)) (by omega) (by omega) (by omega) (by omega))
        · skip
          refine ⟨Nat.le_of_ble_eq_true rfl, ?_⟩
          show zW zro 163 399 [some (.ref 6), some (.int x), some (.int (Int32.ofInt n)), some (.int (Int32.ofInt (k_3 : Int))), some (.int (Int32.ofInt (k_5 : Int))), some (.int (Int32.ofInt v_26)), none] [] (zN L X (zhi s) R G (m13 + 1) (m14 + 6)) Q
          refine zW.run 1 (pc' := 400) (ls' := [some (.ref 6), some (.int x), some (.int (Int32.ofInt n)), some (.int (Int32.ofInt (k_3 : Int))), some (.int (Int32.ofInt (k_5 : Int))), some (.int (Int32.ofInt v_26)), none]) (st' := [.int (Int32.ofInt 0)]) (σ' := (zN L X (zhi s) R G (m13 + 1) (m14 + 6))) (fun n => rfl) ?_
          exact zW.jretb rfl rfl (by decide) (hQ1 (m13 + 1) (m14 + 6) (by omega) (by omega))
      | 14, d30, f9 =>
        cases f9
        refine zW.run 2 (pc' := 323) (ls' := [some (.ref 6), some (.int x), some (.int (Int32.ofInt n)), some (.int (Int32.ofInt (k_3 : Int))), some (.int (Int32.ofInt (k_5 : Int))), some (.int (Int32.ofInt v_26)), w12]) (st' := [.int (Int32.ofInt (k_5 : Int)), .ref 6]) (σ' := (zN L X (zhi s) R G m13 m14)) (fun n => rfl) ?_
        refine zW.callV rfl (by decide) rfl rfl rfl rfl rfl (Nat.le_of_ble_eq_true rfl) ?_
        refine t_S_right S V (i := k_5) (by omega) (fun v_118 s119 V120 f121 => ?_) ?_
        · skip
          show zW zro 163 326 [some (.ref 6), some (.int x), some (.int (Int32.ofInt n)), some (.int (Int32.ofInt (k_3 : Int))), some (.int (Int32.ofInt (k_5 : Int))), some (.int (Int32.ofInt v_26)), w12] [.int (Int32.ofInt v_118)] (zN L X (zhi s119) R G m13 m14) Q
          refine zW.run 3 (pc' := 396) (ls' := [some (.ref 6), some (.int x), some (.int (Int32.ofInt n)), some (.int (Int32.ofInt (k_3 : Int))), some (.int (Int32.ofInt (k_5 : Int))), some (.int (Int32.ofInt v_26)), w12]) (st' := [.int (Int32.ofInt 1)]) (σ' := (zN L X (zhi s119) R G m13 m14)) (fun n => rfl) ?_
          exact zW.jretb rfl rfl (by decide) (hQ0 ph s119 m13 m14 (zV_mono V120 (by omega) (by omega)) (by omega) (by omega) (by omega) (by omega))
        · skip
          refine ⟨Nat.le_of_ble_eq_true rfl, ?_⟩
          show zW zro 163 399 [some (.ref 6), some (.int x), some (.int (Int32.ofInt n)), some (.int (Int32.ofInt (k_3 : Int))), some (.int (Int32.ofInt (k_5 : Int))), some (.int (Int32.ofInt v_26)), none] [] (zN L X (zhi s) R G (m13 + 1) (m14 + 6)) Q
          refine zW.run 1 (pc' := 400) (ls' := [some (.ref 6), some (.int x), some (.int (Int32.ofInt n)), some (.int (Int32.ofInt (k_3 : Int))), some (.int (Int32.ofInt (k_5 : Int))), some (.int (Int32.ofInt v_26)), none]) (st' := [.int (Int32.ofInt 0)]) (σ' := (zN L X (zhi s) R G (m13 + 1) (m14 + 6))) (fun n => rfl) ?_
          exact zW.jretb rfl rfl (by decide) (hQ1 (m13 + 1) (m14 + 6) (by omega) (by omega))
      | 15, d30, f9 =>
        cases f9
        refine zW.run 6 (pc' := 337) (ls' := [some (.ref 6), some (.int x), some (.int (Int32.ofInt n)), some (.int (Int32.ofInt (k_3 : Int))), some (.int (Int32.ofInt (k_5 : Int))), some (.int (Int32.ofInt v_26)), w12]) (st' := [.int (Int32.ofInt 4), .int (x >>> ((Int32.ofInt 10) &&& 31)), .int (Int32.ofInt (k_3 : Int)), .ref 6]) (σ' := (zN L X (zhi s) R G m13 m14)) (fun n => rfl) ?_
        refine zW.callS rfl rfl rfl rfl rfl (Nat.le_of_ble_eq_true rfl) ?_
        refine t_L_below S (v := (x >>> ((Int32.ofInt 10) &&& 31))) (n := 4) (by omega) (fun k_122 f123 => ?_)
        show zW zro 163 340 [some (.ref 6), some (.int x), some (.int (Int32.ofInt n)), some (.int (Int32.ofInt (k_3 : Int))), some (.int (Int32.ofInt (k_5 : Int))), some (.int (Int32.ofInt v_26)), w12] [.int (Int32.ofInt (k_122 : Int)), .int (Int32.ofInt (k_3 : Int)), .ref 6] (zN L X (zhi s) R G m13 m14) Q
        refine zW.callV rfl (by decide) rfl rfl rfl rfl rfl (Nat.le_of_ble_eq_true rfl) ?_
        refine t_S_mine S V (i := k_3) (d := (k_122 : Int)) (by omega) (by omega) (fun v_124 s125 V126 f127 => ?_) ?_
        · skip
          show zW zro 163 343 [some (.ref 6), some (.int x), some (.int (Int32.ofInt n)), some (.int (Int32.ofInt (k_3 : Int))), some (.int (Int32.ofInt (k_5 : Int))), some (.int (Int32.ofInt v_26)), w12] [.int (Int32.ofInt v_124)] (zN L X (zhi s125) R G m13 m14) Q
          refine zW.run 3 (pc' := 396) (ls' := [some (.ref 6), some (.int x), some (.int (Int32.ofInt n)), some (.int (Int32.ofInt (k_3 : Int))), some (.int (Int32.ofInt (k_5 : Int))), some (.int (Int32.ofInt v_26)), w12]) (st' := [.int (Int32.ofInt 1)]) (σ' := (zN L X (zhi s125) R G m13 m14)) (fun n => rfl) ?_
          exact zW.jretb rfl rfl (by decide) (hQ0 ph s125 m13 m14 (zV_mono V126 (by omega) (by omega)) (by omega) (by omega) (by omega) (by omega))
        · skip
          refine ⟨Nat.le_of_ble_eq_true rfl, ?_⟩
          show zW zro 163 399 [some (.ref 6), some (.int x), some (.int (Int32.ofInt n)), some (.int (Int32.ofInt (k_3 : Int))), some (.int (Int32.ofInt (k_5 : Int))), some (.int (Int32.ofInt v_26)), none] [] (zN L X (zhi s) R G (m13 + 1) (m14 + 6)) Q
          refine zW.run 1 (pc' := 400) (ls' := [some (.ref 6), some (.int x), some (.int (Int32.ofInt n)), some (.int (Int32.ofInt (k_3 : Int))), some (.int (Int32.ofInt (k_5 : Int))), some (.int (Int32.ofInt v_26)), none]) (st' := [.int (Int32.ofInt 0)]) (σ' := (zN L X (zhi s) R G (m13 + 1) (m14 + 6))) (fun n => rfl) ?_
          exact zW.jretb rfl rfl (by decide) (hQ1 (m13 + 1) (m14 + 6) (by omega) (by omega))
      | 16, d30, f9 =>
        cases f9
        refine zW.run 5 (pc' := 353) (ls' := [some (.ref 6), some (.int x), some (.int (Int32.ofInt n)), some (.int (Int32.ofInt (k_3 : Int))), some (.int (Int32.ofInt (k_5 : Int))), some (.int (Int32.ofInt v_26)), w12]) (st' := [.int (Int32.ofInt 3), .int (x >>> ((Int32.ofInt 8) &&& 31)), .ref 6]) (σ' := (zN L X (zhi s) R G m13 m14)) (fun n => rfl) ?_
        refine zW.callS rfl rfl rfl rfl rfl (Nat.le_of_ble_eq_true rfl) ?_
        refine t_L_below S (v := (x >>> ((Int32.ofInt 8) &&& 31))) (n := 3) (by omega) (fun k_128 f129 => ?_)
        show zW zro 163 356 [some (.ref 6), some (.int x), some (.int (Int32.ofInt n)), some (.int (Int32.ofInt (k_3 : Int))), some (.int (Int32.ofInt (k_5 : Int))), some (.int (Int32.ofInt v_26)), w12] [.int (Int32.ofInt (k_128 : Int)), .ref 6] (zN L X (zhi s) R G m13 m14) Q
        refine zW.run 5 (pc' := 363) (ls' := [some (.ref 6), some (.int x), some (.int (Int32.ofInt n)), some (.int (Int32.ofInt (k_3 : Int))), some (.int (Int32.ofInt (k_5 : Int))), some (.int (Int32.ofInt v_26)), w12]) (st' := [.int (Int32.ofInt 30), .int (x >>> ((Int32.ofInt 10) &&& 31)), .int (Int32.ofInt 1), .int (Int32.ofInt (k_128 : Int)), .ref 6]) (σ' := (zN L X (zhi s) R G m13 m14)) (fun n => rfl) ?_
        refine zW.callS rfl rfl rfl rfl rfl (Nat.le_of_ble_eq_true rfl) ?_
        refine t_L_below S (v := (x >>> ((Int32.ofInt 10) &&& 31))) (n := 30) (by omega) (fun k_130 f131 => ?_)
        show zW zro 163 366 [some (.ref 6), some (.int x), some (.int (Int32.ofInt n)), some (.int (Int32.ofInt (k_3 : Int))), some (.int (Int32.ofInt (k_5 : Int))), some (.int (Int32.ofInt v_26)), w12] [.int (Int32.ofInt (k_130 : Int)), .int (Int32.ofInt 1), .int (Int32.ofInt (k_128 : Int)), .ref 6] (zN L X (zhi s) R G m13 m14) Q
        refine zW.jadd rfl ?_
        refine zW.callV rfl (by decide) rfl rfl rfl rfl rfl (Nat.le_of_ble_eq_true rfl) ?_
        refine t_S_charge S V (i := k_128) (d := (1 + (k_130 : Int))) (by omega) (by omega) (fun v_132 s133 V134 f135 => ?_) ?_ ?_
        · skip
          show zW zro 163 370 [some (.ref 6), some (.int x), some (.int (Int32.ofInt n)), some (.int (Int32.ofInt (k_3 : Int))), some (.int (Int32.ofInt (k_5 : Int))), some (.int (Int32.ofInt v_26)), w12] [.int (Int32.ofInt v_132)] (zN L X (zhi s133) R G m13 m14) Q
          refine zW.run 3 (pc' := 396) (ls' := [some (.ref 6), some (.int x), some (.int (Int32.ofInt n)), some (.int (Int32.ofInt (k_3 : Int))), some (.int (Int32.ofInt (k_5 : Int))), some (.int (Int32.ofInt v_26)), w12]) (st' := [.int (Int32.ofInt 1)]) (σ' := (zN L X (zhi s133) R G m13 m14)) (fun n => rfl) ?_
          exact zW.jretb rfl rfl (by decide) (hQ0 ph s133 m13 m14 (zV_mono V134 (by omega) (by omega)) (by omega) (by omega) (by omega) (by omega))
        · skip
          refine ⟨Nat.le_of_ble_eq_true rfl, ?_⟩
          show zW zro 163 403 [some (.ref 6), some (.int x), some (.int (Int32.ofInt n)), some (.int (Int32.ofInt (k_3 : Int))), some (.int (Int32.ofInt (k_5 : Int))), some (.int (Int32.ofInt v_26)), none] [] (zN L X (zhi s) R G (m13 + 1) (m14 + 6)) Q
          refine zW.run 1 (pc' := 404) (ls' := [some (.ref 6), some (.int x), some (.int (Int32.ofInt n)), some (.int (Int32.ofInt (k_3 : Int))), some (.int (Int32.ofInt (k_5 : Int))), some (.int (Int32.ofInt v_26)), none]) (st' := [.int (Int32.ofInt 0)]) (σ' := (zN L X (zhi s) R G (m13 + 1) (m14 + 6))) (fun n => rfl) ?_
          exact zW.jretb rfl rfl (by decide) (hQ1 (m13 + 1) (m14 + 6) (by omega) (by omega))
        · skip
          refine ⟨Nat.le_of_ble_eq_true rfl, ?_⟩
          show zW zro 163 399 [some (.ref 6), some (.int x), some (.int (Int32.ofInt n)), some (.int (Int32.ofInt (k_3 : Int))), some (.int (Int32.ofInt (k_5 : Int))), some (.int (Int32.ofInt v_26)), none] [] (zN L X (zhi s) R G (m13 + 1) (m14 + 6)) Q
          refine zW.run 1 (pc' := 400) (ls' := [some (.ref 6), some (.int x), some (.int (Int32.ofInt n)), some (.int (Int32.ofInt (k_3 : Int))), some (.int (Int32.ofInt (k_5 : Int))), some (.int (Int32.ofInt v_26)), none]) (st' := [.int (Int32.ofInt 0)]) (σ' := (zN L X (zhi s) R G (m13 + 1) (m14 + 6))) (fun n => rfl) ?_
          exact zW.jretb rfl rfl (by decide) (hQ1 (m13 + 1) (m14 + 6) (by omega) (by omega))
      | 17, d30, f9 =>
        cases f9
        refine zW.run 5 (pc' := 380) (ls' := [some (.ref 6), some (.int x), some (.int (Int32.ofInt n)), some (.int (Int32.ofInt (k_3 : Int))), some (.int (Int32.ofInt (k_5 : Int))), some (.int (Int32.ofInt v_26)), w12]) (st' := [.int (Int32.ofInt 3), .int (x >>> ((Int32.ofInt 8) &&& 31)), .ref 6]) (σ' := (zN L X (zhi s) R G m13 m14)) (fun n => rfl) ?_
        refine zW.callS rfl rfl rfl rfl rfl (Nat.le_of_ble_eq_true rfl) ?_
        refine t_L_below S (v := (x >>> ((Int32.ofInt 8) &&& 31))) (n := 3) (by omega) (fun k_136 f137 => ?_)
        show zW zro 163 383 [some (.ref 6), some (.int x), some (.int (Int32.ofInt n)), some (.int (Int32.ofInt (k_3 : Int))), some (.int (Int32.ofInt (k_5 : Int))), some (.int (Int32.ofInt v_26)), w12] [.int (Int32.ofInt (k_136 : Int)), .ref 6] (zN L X (zhi s) R G m13 m14) Q
        refine zW.callV rfl (by decide) rfl rfl rfl rfl rfl (Nat.le_of_ble_eq_true rfl) ?_
        refine t_S_blow S V (i := k_136) (by omega) (by omega) (fun v_138 s139 V140 f141 => ?_) (fun v_142 s143 V144 f145 => ?_) ?_ ?_
        · skip
          show zW zro 163 386 [some (.ref 6), some (.int x), some (.int (Int32.ofInt n)), some (.int (Int32.ofInt (k_3 : Int))), some (.int (Int32.ofInt (k_5 : Int))), some (.int (Int32.ofInt v_26)), w12] [.int (Int32.ofInt v_138)] (zN L X (zhi s139) R G m13 m14) Q
          refine zW.run 3 (pc' := 396) (ls' := [some (.ref 6), some (.int x), some (.int (Int32.ofInt n)), some (.int (Int32.ofInt (k_3 : Int))), some (.int (Int32.ofInt (k_5 : Int))), some (.int (Int32.ofInt v_26)), w12]) (st' := [.int (Int32.ofInt 1)]) (σ' := (zN L X (zhi s139) R G m13 m14)) (fun n => rfl) ?_
          exact zW.jretb rfl rfl (by decide) (hQ0 2 s139 m13 m14 (zV_mono V140 (by omega) (by omega)) (by omega) (by omega) (by omega) (by omega))
        · skip
          show zW zro 163 386 [some (.ref 6), some (.int x), some (.int (Int32.ofInt n)), some (.int (Int32.ofInt (k_3 : Int))), some (.int (Int32.ofInt (k_5 : Int))), some (.int (Int32.ofInt v_26)), w12] [.int (Int32.ofInt v_142)] (zN L X (zhi s143) R G m13 m14) Q
          refine zW.run 3 (pc' := 396) (ls' := [some (.ref 6), some (.int x), some (.int (Int32.ofInt n)), some (.int (Int32.ofInt (k_3 : Int))), some (.int (Int32.ofInt (k_5 : Int))), some (.int (Int32.ofInt v_26)), w12]) (st' := [.int (Int32.ofInt 1)]) (σ' := (zN L X (zhi s143) R G m13 m14)) (fun n => rfl) ?_
          exact zW.jretb rfl rfl (by decide) (hQ0 1 s143 m13 m14 (zV_mono V144 (by omega) (by omega)) (by omega) (by omega) (by omega) (by omega))
        · skip
          refine ⟨Nat.le_of_ble_eq_true rfl, ?_⟩
          show zW zro 163 403 [some (.ref 6), some (.int x), some (.int (Int32.ofInt n)), some (.int (Int32.ofInt (k_3 : Int))), some (.int (Int32.ofInt (k_5 : Int))), some (.int (Int32.ofInt v_26)), none] [] (zN L X (zhi s) R G (m13 + 1) (m14 + 6)) Q
          refine zW.run 1 (pc' := 404) (ls' := [some (.ref 6), some (.int x), some (.int (Int32.ofInt n)), some (.int (Int32.ofInt (k_3 : Int))), some (.int (Int32.ofInt (k_5 : Int))), some (.int (Int32.ofInt v_26)), none]) (st' := [.int (Int32.ofInt 0)]) (σ' := (zN L X (zhi s) R G (m13 + 1) (m14 + 6))) (fun n => rfl) ?_
          exact zW.jretb rfl rfl (by decide) (hQ1 (m13 + 1) (m14 + 6) (by omega) (by omega))
        · skip
          refine ⟨Nat.le_of_ble_eq_true rfl, ?_⟩
          show zW zro 163 399 [some (.ref 6), some (.int x), some (.int (Int32.ofInt n)), some (.int (Int32.ofInt (k_3 : Int))), some (.int (Int32.ofInt (k_5 : Int))), some (.int (Int32.ofInt v_26)), none] [] (zN L X (zhi s) R G (m13 + 1) (m14 + 6)) Q
          refine zW.run 1 (pc' := 400) (ls' := [some (.ref 6), some (.int x), some (.int (Int32.ofInt n)), some (.int (Int32.ofInt (k_3 : Int))), some (.int (Int32.ofInt (k_5 : Int))), some (.int (Int32.ofInt v_26)), none]) (st' := [.int (Int32.ofInt 0)]) (σ' := (zN L X (zhi s) R G (m13 + 1) (m14 + 6))) (fun n => rfl) ?_
          exact zW.jretb rfl rfl (by decide) (hQ1 (m13 + 1) (m14 + 6) (by omega) (by omega))
      | n9 + 18, e9, f9 => cases f9
    refine zW.jif_le rfl (by omega) (fun c146 => ?_) (fun c146 => ?_)
    · skip
      refine zW.run 1 (pc' := 68) (ls' := [some (.ref 6), some (.int x), some (.int (Int32.ofInt n)), some (.int (Int32.ofInt (k_3 : Int))), some (.int (Int32.ofInt (k_5 : Int))), w11, w12]) (st' := [.int (Int32.ofInt (-1)), .int (Int32.ofInt a_10), .int (Int32.ofInt (s (42 + k_3) 1)), .int (Int32.ofInt (n - 1)), .int (Int32.ofInt 0)]) (σ' := (zN L X (zhi s) R G m13 m14)) (fun n => rfl) ?_
      exact J22 (-1) (by omega)
    · skip
      refine zW.run 2 (pc' := 68) (ls' := [some (.ref 6), some (.int x), some (.int (Int32.ofInt n)), some (.int (Int32.ofInt (k_3 : Int))), some (.int (Int32.ofInt (k_5 : Int))), w11, w12]) (st' := [.int (Int32.ofInt 1), .int (Int32.ofInt a_10), .int (Int32.ofInt (s (42 + k_3) 1)), .int (Int32.ofInt (n - 1)), .int (Int32.ofInt 0)]) (σ' := (zN L X (zhi s) R G m13 m14)) (fun n => rfl) ?_
      exact J22 1 (by omega)
  refine zW.jif_ne rfl (by omega) (fun c147 => ?_) (fun c147 => ?_)
  · skip
    refine zW.run 2 (pc' := 46) (ls' := [some (.ref 6), some (.int x), some (.int (Int32.ofInt n)), some (.int (Int32.ofInt (k_3 : Int))), some (.int (Int32.ofInt (k_5 : Int))), none, none]) (st' := [.int (Int32.ofInt 0), .ref 6, .int (Int32.ofInt (s (42 + k_3) 1)), .int (Int32.ofInt (n - 1)), .int (Int32.ofInt 0)]) (σ' := (zN L X (zhi s) R G nc ns)) (fun n => rfl) ?_
    refine zW.jrow S V rfl (by rfl) (by omega) (fun c148 c148b => ?_) (fun c148 => ?_)
    · skip
      exact J18 (g 0) none none (nc + 16) (ns + 400) (by omega) (by omega) (by omega)
    exfalso; omega
  · skip
    refine zW.run 2 (pc' := 52) (ls' := [some (.ref 6), some (.int x), some (.int (Int32.ofInt n)), some (.int (Int32.ofInt (k_3 : Int))), some (.int (Int32.ofInt (k_5 : Int))), none, none]) (st' := [.int (Int32.ofInt 1), .int (Int32.ofInt (s (42 + k_3) 1)), .int (Int32.ofInt (n - 1)), .int (Int32.ofInt 0)]) (σ' := (zN L X (zhi s) R G nc ns)) (fun n => rfl) ?_
    exact J18 1 none none nc ns (by omega) (by omega) (by omega)
end ZB
