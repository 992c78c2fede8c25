/-! what the law asks of a square (printed by program) -/
section ZB
variable {ro : Nat → Int32 → zS → Option (zO × zS)} {L : Nat} {X : zK} {s : zJ} {R : Nat → Nat → Option Nat} {G : Nat → Nat → Int64} {nc ns : Nat} {Q : zO → zS → Prop} {g : Nat → Int} {U F T B ph : Int}
def ztw (w : Int) : Int := if w = 1 then 6 else if w = 3 then 4 else if w = 6 then 2 else if w = 4 then 2 else if w = 2 then -4 else if w = 7 then -2 else 0
def zbo (w : Int) : Int := if w = 5 then -2 else 1
theorem ztw_b (w : Int) : -4 ≤ ztw w ∧ ztw w ≤ 6 := by
  unfold ztw
  omega
theorem zbo_b (w : Int) : -2 ≤ zbo w ∧ zbo w ≤ 1 := by
  unfold zbo
  omega
theorem ztw_e {w v h : Int} (k : w = 1 ∧ v = 2 * h + 6 ∨ w = 3 ∧ v = 2 * h + 4 ∨ w = 6 ∧ v = 2 * h + 2 ∨ w = 4 ∧ v = 2 * h + 2 ∨ w = 2 ∧ v = 2 * h + -4 ∨ w = 7 ∧ v = 2 * h + -2 ∨ w = 0 ∧ v = 2 * h + 0 ∨ w = 5 ∧ v = 2 * h + 0) : v = 2 * h + ztw w := by
  rcases k with ⟨k1, k2⟩ | ⟨k1, k2⟩ | ⟨k1, k2⟩ | ⟨k1, k2⟩ | ⟨k1, k2⟩ | ⟨k1, k2⟩ | ⟨k1, k2⟩ | ⟨k1, k2⟩ <;> rw [k1, k2] <;> rfl
theorem t_S_ofSquare_5z (S : zSR R) (V : zV g U F T B ph s) {x : Int} (p0 : 0 ≤ x ∧ x < g 2) (hQ0 : ∀ (v : Int), v = 2 * s 9 x.toNat + ztw (s 11 x.toNat) → -4 ≤ ztw (s 11 x.toNat) ∧ ztw (s 11 x.toNat) ≤ 6 → Q (.inl (some (.int (Int32.ofInt v)))) (zN L X (zhi s) R G nc ns)) : zW ro 23 0 (zfst [.ref 6, .int (Int32.ofInt x), .int (Int32.ofInt 5)] 3) [] (zN L X (zhi s) R G nc ns) Q :=
  t_S_ofSquare_5 S V p0 (fun v h => hQ0 v (ztw_e h) (ztw_b _))
theorem t_S_ofSquare_6z (S : zSR R) (V : zV g U F T B ph s) {x : Int} (p0 : 0 ≤ x ∧ x < g 2) (hQ0 : ∀ (v : Int), v = 2 * s 9 x.toNat + ztw (s 11 x.toNat) + zbo (s 11 x.toNat) → -2 ≤ zbo (s 11 x.toNat) ∧ zbo (s 11 x.toNat) ≤ 1 → Q (.inl (some (.int (Int32.ofInt v)))) (zN L X (zhi s) R G nc ns)) : zW ro 23 0 (zfst [.ref 6, .int (Int32.ofInt x), .int (Int32.ofInt 6)] 3) [] (zN L X (zhi s) R G nc ns) Q :=
  t_S_ofSquare_6 S V p0 (fun t v h h2 => hQ0 v (by
    rw [← ztw_e h]
    clear h
    unfold zbo
    omega) (zbo_b _))
theorem t_S_ofSquare_7z (S : zSR R) (V : zV g U F T B ph s) {x : Int} (p0 : 0 ≤ x ∧ x < g 2) (hQ0 : ∀ (v : Int), -1 ≤ v ∧ v ≤ 1 → (s 11 x.toNat = 1 → v = 1) → (s 11 x.toNat = 3 → v = 1) → (s 11 x.toNat = 5 → v = 0) → (x = 0 → v = 0) → Q (.inl (some (.int (Int32.ofInt v)))) (zN L X (zhi s) R G nc ns)) : zW ro 23 0 (zfst [.ref 6, .int (Int32.ofInt x), .int (Int32.ofInt 7)] 3) [] (zN L X (zhi s) R G nc ns) Q := by
  have hg := zA_geo (zV_zA V)
  have e0 : x = 0 → s 11 x.toNat = 0 := fun h => by rw [h]; exact (zV_zE V).2.1
  have e3 : x = g 3 → s 11 x.toNat = 3 := fun h => by rw [h]; exact (zV_zE V).2.2
  exact t_S_ofSquare_7 S V p0 (fun v h => hQ0 v (by omega) (by omega) (by omega) (by omega) (by omega))
theorem t_S_ofSquare_3z (S : zSR R) (V : zV g U F T B ph s) {x : Int} (p0 : 0 ≤ x ∧ x < g 2) (hQ0 : ∀ (v : Int), 0 ≤ v ∧ v ≤ 99 → (s 11 x.toNat = 1 → 0 < v) → (¬ s 11 x.toNat = 1 → v = 0) → Q (.inl (some (.int (Int32.ofInt v)))) (zN L X (zhi s) R G nc ns)) : zW ro 23 0 (zfst [.ref 6, .int (Int32.ofInt x), .int (Int32.ofInt 3)] 3) [] (zN L X (zhi s) R G nc ns) Q := by
  have hg := zA_geo (zV_zA V)
  have hq := zV_sq V (k := x.toNat) (by omega)
  have hE := (zV_zE V).1 x.toNat (by omega)
  exact t_S_ofSquare_3 S V p0 (fun v h => hQ0 v (by omega) (by omega) (by omega))
set_option maxRecDepth 20000 in
set_option maxHeartbeats 20000000 in
theorem t_S_sideFact_3 (S : zSR R) (V : zV g U F T B ph s) {x : Int} (p0 : x = 0 ∨ x = 1) (hQ0 : ∀ (o : Nat) (v : Int), x = 1 ∧ o = 22 ∨ ¬ x = 1 ∧ o = 21 → v = s o 3 → 0 ≤ v ∧ v ≤ 100 → Q (.inl (some (.int (Int32.ofInt v)))) (zN L X (zhi s) R G nc ns)) : zW ro 28 0 (zfst [.ref 6, .int (Int32.ofInt x), .int (Int32.ofInt 3)] 4) [] (zN L X (zhi s) R G nc ns) Q := by
  show zW ro 28 0 [some (.ref 6), some (.int (Int32.ofInt x)), some (.int (Int32.ofInt 3)), none] [] (zN L X (zhi s) R G nc ns) Q
  have f1 := zA_geo (zV_zA V)
  have hB0 := zV_B V
  refine zW.run 1 (pc' := 1) (ls' := [some (.ref 6), some (.int (Int32.ofInt x)), some (.int (Int32.ofInt 3)), none]) (st' := [.ref 6]) (σ' := (zN L X (zhi s) R G nc ns)) (fun n => rfl) ?_
  refine zW.getf (v := .ref 7) rfl rfl (zr_6_0 S) ?_
  refine zW.run 1 (pc' := 5) (ls' := [some (.ref 6), some (.int (Int32.ofInt x)), some (.int (Int32.ofInt 3)), none]) (st' := [.int (Int32.ofInt x), .ref 7]) (σ' := (zN L X (zhi s) R G nc ns)) (fun n => rfl) ?_
  refine zW.callV rfl (by decide) rfl rfl rfl rfl rfl (Nat.le_of_ble_eq_true rfl) ?_
  refine t_Siege_of S (x := x) (by omega) (fun o_2 f3 => ?_)
  show zW ro 28 8 [some (.ref 6), some (.int (Int32.ofInt x)), some (.int (Int32.ofInt 3)), none] [.ref o_2] (zN L X (zhi s) R G nc ns) Q
  refine zW.run 2 (pc' := 10) (ls' := [some (.ref 6), some (.int (Int32.ofInt x)), some (.int (Int32.ofInt 3)), some (.ref o_2)]) (st' := [.int (Int32.ofInt 3)]) (σ' := (zN L X (zhi s) R G nc ns)) (fun n => rfl) ?_
  refine zW.go (pc' := 87) (ls' := [some (.ref 6), some (.int (Int32.ofInt x)), some (.int (Int32.ofInt 3)), some (.ref o_2)]) (st' := []) (σ' := (zN L X (zhi s) R G nc ns)) rfl (fun rec => rfl) ?_
  refine zW.run 1 (pc' := 88) (ls' := [some (.ref 6), some (.int (Int32.ofInt x)), some (.int (Int32.ofInt 3)), some (.ref o_2)]) (st' := [.ref o_2]) (σ' := (zN L X (zhi s) R G nc ns)) (fun n => rfl) ?_
  have f4 := zV_sid V (o := o_2) (by omega)
  refine zW.jget (v := (s o_2 3)) rfl (zk_sid (by omega)) (fun _ _ _ => rfl) rfl ?_
  exact zW.jret rfl rfl (hQ0 o_2 (s o_2 3) (by omega) (rfl) (by omega))
set_option maxRecDepth 20000 in
set_option maxHeartbeats 20000000 in
theorem t_S_ofSide_3 (S : zSR R) (V : zV g U F T B ph s) {x : Int} (p0 : x = 0 ∨ x = 1) (hQ0 : ∀ (o : Nat) (v : Int), x = 1 ∧ o = 22 ∨ ¬ x = 1 ∧ o = 21 → v = s o 3 → 0 ≤ v ∧ v ≤ 100 → Q (.inl (some (.int (Int32.ofInt v)))) (zN L X (zhi s) R G nc ns)) : zW ro 21 0 (zfst [.ref 6, .int (Int32.ofInt x), .int (Int32.ofInt 3)] 3) [] (zN L X (zhi s) R G nc ns) Q := by
  show zW ro 21 0 [some (.ref 6), some (.int (Int32.ofInt x)), some (.int (Int32.ofInt 3))] [] (zN L X (zhi s) R G nc ns) Q
  have f1 := zA_geo (zV_zA V)
  have hB0 := zV_B V
  refine zW.run 1 (pc' := 1) (ls' := [some (.ref 6), some (.int (Int32.ofInt x)), some (.int (Int32.ofInt 3))]) (st' := [.int (Int32.ofInt x)]) (σ' := (zN L X (zhi s) R G nc ns)) (fun n => rfl) ?_
  refine zW.callS rfl rfl rfl rfl rfl (Nat.le_of_ble_eq_true rfl) ?_
  refine t_S_isSide S (x := x) (by omega) (fun f2 => ?_) (fun f3 => ?_)
  · skip
    show zW ro 21 4 [some (.ref 6), some (.int (Int32.ofInt x)), some (.int (Int32.ofInt 3))] [.int (Int32.ofInt 1)] (zN L X (zhi s) R G nc ns) Q
    refine zW.run 9 (pc' := 31) (ls' := [some (.ref 6), some (.int (Int32.ofInt x)), some (.int (Int32.ofInt 3))]) (st' := [.int (Int32.ofInt 3), .int (Int32.ofInt x), .ref 6]) (σ' := (zN L X (zhi s) R G nc ns)) (fun n => rfl) ?_
    refine zW.callV rfl (by decide) rfl rfl rfl rfl rfl (Nat.le_of_ble_eq_true rfl) ?_
    refine t_S_sideFact_3 S V (x := x) (by omega) (fun o_4 v_5 f6 f7 f8 => ?_)
    show zW ro 21 34 [some (.ref 6), some (.int (Int32.ofInt x)), some (.int (Int32.ofInt 3))] [.int (Int32.ofInt v_5)] (zN L X (zhi s) R G nc ns) Q
    exact zW.jret rfl rfl (hQ0 o_4 v_5 (by omega) (by assumption) (by omega))
  · skip
    show zW ro 21 4 [some (.ref 6), some (.int (Int32.ofInt x)), some (.int (Int32.ofInt 3))] [.int (Int32.ofInt 0)] (zN L X (zhi s) R G nc ns) Q
    refine zW.run 1 (pc' := 17) (ls' := [some (.ref 6), some (.int (Int32.ofInt x)), some (.int (Int32.ofInt 3))]) (st' := []) (σ' := (zN L X (zhi s) R G nc ns)) (fun n => rfl) ?_
    exfalso
    omega
end ZB
