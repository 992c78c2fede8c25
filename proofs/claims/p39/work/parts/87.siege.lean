/-! the law's siege (printed by program) -/
section ZB
variable {ro : Nat → Int32 → zS → Option (zO × zS)} {L : Nat} {X : zK} {s : zJ} {R : Nat → Nat → Option Nat} {G : Nat → Nat → Int64} {nc ns : Nat} {Q : zO → zS → Prop} {g : Nat → Int} {U F T B ph : Int}
theorem zfr_g {s : zJ} (hf : ∀ o f, 0 < o → o < 59 → s (7 + o) f = zIv o f) : ∀ i : Nat, i < 16 → s (26 + i) 0 = -1 ∧ s (26 + i) 1 = -1 ∧ s (26 + i) 2 = 0 := fun i hi => by
  have e : ∀ f, s (26 + i) f = if f = 0 ∨ f = 1 ∨ f = 6 then -1 else 0 := fun f => by
    rw [show 26 + i = 7 + (19 + i) by omega, hf _ f (by omega) (by omega), zIv_g (by omega)]
  rw [e 0, e 1, e 2]
  decide
theorem zfr_c {s : zJ} (hf : ∀ o f, 0 < o → o < 59 → s (7 + o) f = zIv o f) : ∀ i : Nat, i < 12 → s (42 + i) 0 = -1 ∧ s (42 + i) 1 = -1 ∧ s (42 + i) 2 = 0 := fun i hi => by
  have e : ∀ f, s (42 + i) f = if f = 0 ∨ f = 1 ∨ f = 5 then -1 else 0 := fun f => by
    rw [show 42 + i = 7 + (35 + i) by omega, hf _ f (by omega) (by omega), zIv_c (by omega)]
  rw [e 0, e 1, e 2]
  decide
theorem zfr_s {s : zJ} (hf : ∀ o f, 0 < o → o < 59 → s (7 + o) f = zIv o f) : s 21 0 = 0 ∧ s 21 1 = 0 ∧ s 21 2 = 0 ∧ s 21 3 = 60 ∧ s 22 0 = 0 ∧ s 22 1 = 0 ∧ s 22 2 = 0 ∧ s 22 3 = 60 :=
  ⟨hf 14 0 (by decide) (by decide), hf 14 1 (by decide) (by decide), hf 14 2 (by decide) (by decide), hf 14 3 (by decide) (by decide), hf 15 0 (by decide) (by decide), hf 15 1 (by decide) (by decide), hf 15 2 (by decide) (by decide), hf 15 3 (by decide) (by decide)⟩
theorem zfr_r {s : zJ} (hf : ∀ o f, 0 < o → o < 59 → s (7 + o) f = zIv o f) : ∀ j : Nat, s 9 j = 0 ∧ s 10 j = 0 ∧ s 11 j = 0 ∧ s 12 j = 0 ∧ s 13 j = 0 := fun j =>
  ⟨hf 2 j (by decide) (by decide), hf 3 j (by decide) (by decide), hf 4 j (by decide) (by decide), hf 5 j (by decide) (by decide), hf 6 j (by decide) (by decide)⟩
theorem zMu_s {w h c : Int} {s s2 : zJ} (hf : ∀ o f, 0 < o → o < 59 → s (7 + o) f = zIv o f) (h7 : ∀ f, s 7 f = if f = 12 then -1 else 0) (L : zLO w h c s s2) : zMu c s2 0 0 s2 := by
  have k := L.2.2.2.2
  refine zMu_0 (fun i hi => ?_) (fun i hi => ?_) ⟨?_, ?_⟩ (fun o ho => ?_)
  · rw [k _ 0 (by omega), k _ 1 (by omega), k _ 2 (by omega)]; exact zfr_g hf i hi
  · rw [k _ 0 (by omega), k _ 1 (by omega), k _ 2 (by omega)]; exact zfr_c hf i hi
  · rw [k 7 7 (by omega)]; exact h7 7
  · rw [k 7 8 (by omega)]; exact h7 8
  · rw [k o 0 (by omega), k o 1 (by omega), k o 2 (by omega)]
    have q := zfr_s hf
    rcases ho with ho | ho <;> subst ho <;> omega
theorem zMv_7 {c : Int} {s0 s1 : zJ} (H : zMv c s0 s1) (h : s0 7 11 = 0) : s1 7 11 = 0 := by
  obtain ⟨s2, a, b, e, M, -, -, rfl⟩ := H
  rw [zup_nj (by omega), zup_nj (by omega), zup_nj (by omega), M.2.2.2.2 7 11 (by omega) (by omega) (by omega)]
  exact h
def zBg (w h : Int) (s s1 : zJ) : Prop := ∃ s2 s3 : zJ, zLO w h (w * h) s s2 ∧ zMv (w * h) s2 s3 ∧ s1 = zup (zup (zup s3 7 11 1) 21 10 (s3 21 0)) 22 10 (s3 22 0)
set_option maxRecDepth 20000 in
set_option maxHeartbeats 20000000 in
theorem t_L_siege_2 (S : zSR R)  (p0 : ∀ o f, 0 < o → o < 59 → s (7 + o) f = zIv o f) (p1 : ∀ f, s 7 f = if f = 12 then -1 else 0) (p2 : ∀ p k : Nat, p < 5 → k < 6 → 0 ≤ s p k ∧ s p k ≤ 12) (p3 : L ≤ 260) (hQ0 : ∀ (w : Int) (h : Int) (s1 : zJ), 8 ≤ w ∧ w ≤ 12 → 8 ≤ h ∧ h ≤ 12 → zBg w h s s1 → Q (.inl (some (.ref 6))) (zN L X (zhi s1) R G nc ns)) : zW ro 167 7 [some (.ref 5), none] [.ref 6] (zN L X (zhi s) R G nc ns) Q := by
  refine zW.run 5 (pc' := 13) (ls' := [some (.ref 5), some (.ref 6)]) (st' := [.int (Int32.ofInt 0), .ref 5, .int (Int32.ofInt 8), .ref 6]) (σ' := (zN L X (zhi s) R G nc ns)) (fun n => rfl) ?_
  refine zW.callS rfl rfl rfl rfl rfl (Nat.le_of_ble_eq_true rfl) ?_
  refine t_L_cell S (k := 0) (by omega) (fun v_1 => ?_)
  show zW ro 167 16 [some (.ref 5), some (.ref 6)] [.int v_1, .int (Int32.ofInt 8), .ref 6] (zN L X (zhi s) R G nc ns) Q
  refine zW.run 1 (pc' := 17) (ls' := [some (.ref 5), some (.ref 6)]) (st' := [.int (Int32.ofInt 5), .int v_1, .int (Int32.ofInt 8), .ref 6]) (σ' := (zN L X (zhi s) R G nc ns)) (fun n => rfl) ?_
  refine zW.callS rfl rfl rfl rfl rfl (Nat.le_of_ble_eq_true rfl) ?_
  refine t_L_below S (v := v_1) (n := 5) (by omega) (fun k_2 f3 => ?_)
  show zW ro 167 20 [some (.ref 5), some (.ref 6)] [.int (Int32.ofInt (k_2 : Int)), .int (Int32.ofInt 8), .ref 6] (zN L X (zhi s) R G nc ns) Q
  refine zW.jadd rfl ?_
  refine zW.run 3 (pc' := 25) (ls' := [some (.ref 5), some (.ref 6)]) (st' := [.int (Int32.ofInt 0), .ref 5, .int (Int32.ofInt 8), .int (Int32.ofInt (8 + (k_2 : Int))), .ref 6]) (σ' := (zN L X (zhi s) R G nc ns)) (fun n => rfl) ?_
  refine zW.callS rfl rfl rfl rfl rfl (Nat.le_of_ble_eq_true rfl) ?_
  refine t_L_cell S (k := 0) (by omega) (fun v_4 => ?_)
  show zW ro 167 28 [some (.ref 5), some (.ref 6)] [.int v_4, .int (Int32.ofInt 8), .int (Int32.ofInt (8 + (k_2 : Int))), .ref 6] (zN L X (zhi s) R G nc ns) Q
  refine zW.run 3 (pc' := 31) (ls' := [some (.ref 5), some (.ref 6)]) (st' := [.int (Int32.ofInt 5), .int (v_4 >>> ((Int32.ofInt 3) &&& 31)), .int (Int32.ofInt 8), .int (Int32.ofInt (8 + (k_2 : Int))), .ref 6]) (σ' := (zN L X (zhi s) R G nc ns)) (fun n => rfl) ?_
  refine zW.callS rfl rfl rfl rfl rfl (Nat.le_of_ble_eq_true rfl) ?_
  refine t_L_below S (v := (v_4 >>> ((Int32.ofInt 3) &&& 31))) (n := 5) (by omega) (fun k_5 f6 => ?_)
  show zW ro 167 34 [some (.ref 5), some (.ref 6)] [.int (Int32.ofInt (k_5 : Int)), .int (Int32.ofInt 8), .int (Int32.ofInt (8 + (k_2 : Int))), .ref 6] (zN L X (zhi s) R G nc ns) Q
  refine zW.jadd rfl ?_
  refine zW.run 2 (pc' := 37) (ls' := [some (.ref 5), some (.ref 6)]) (st' := [.int (Int32.ofInt 1), .ref 5, .int (Int32.ofInt (8 + (k_5 : Int))), .int (Int32.ofInt (8 + (k_2 : Int))), .ref 6]) (σ' := (zN L X (zhi s) R G nc ns)) (fun n => rfl) ?_
  refine zW.callS rfl rfl rfl rfl rfl (Nat.le_of_ble_eq_true rfl) ?_
  refine t_L_cell S (k := 1) (by omega) (fun v_7 => ?_)
  show zW ro 167 40 [some (.ref 5), some (.ref 6)] [.int v_7, .int (Int32.ofInt (8 + (k_5 : Int))), .int (Int32.ofInt (8 + (k_2 : Int))), .ref 6] (zN L X (zhi s) R G nc ns) Q
  refine zW.run 1 (pc' := 42) (ls' := [some (.ref 5), some (.ref 6)]) (st' := [.int (Int32.ofInt 100), .int v_7, .int (Int32.ofInt (8 + (k_5 : Int))), .int (Int32.ofInt (8 + (k_2 : Int))), .ref 6]) (σ' := (zN L X (zhi s) R G nc ns)) (fun n => rfl) ?_
  refine zW.callS rfl rfl rfl rfl rfl (Nat.le_of_ble_eq_true rfl) ?_
  refine t_L_below S (v := v_7) (n := 100) (by omega) (fun k_8 f9 => ?_)
  show zW ro 167 45 [some (.ref 5), some (.ref 6)] [.int (Int32.ofInt (k_8 : Int)), .int (Int32.ofInt (8 + (k_5 : Int))), .int (Int32.ofInt (8 + (k_2 : Int))), .ref 6] (zN L X (zhi s) R G nc ns) Q
  refine zW.callV rfl (by decide) rfl rfl rfl rfl rfl (Nat.le_of_ble_eq_true rfl) ?_
  refine t_S_lay S (w := (8 + (k_2 : Int))) (h := (8 + (k_5 : Int))) (d := (k_8 : Int)) (c := ((8 + (k_2 : Int)) * (8 + (k_5 : Int)))) (gt := (6 * (8 + k_2) + 6)) (by omega) (by omega) (by omega) (rfl) (by omega) (zfr_r p0) (p2) (zwh (by omega) (by omega)) (p1 11) (zfr_g p0) (zfr_c p0) (⟨p1 7, p1 8, p1 14, p1 15, p0 16 4 (by decide) (by decide)⟩) (zfr_s p0) (fun s10 v_11 f12 => ?_)
  show zW ro 167 48 [some (.ref 5), some (.ref 6)] [.int (Int32.ofInt v_11)] (zN L X (zhi s10) R G nc ns) Q
  refine zW.run 4 (pc' := 52) (ls' := [some (.ref 5), some (.ref 6)]) (st' := [.int (Int32.ofInt 2), .ref 5, .ref 6]) (σ' := (zN L X (zhi s10) R G nc ns)) (fun n => rfl) ?_
  refine zW.callS rfl rfl rfl rfl rfl (Nat.le_of_ble_eq_true rfl) ?_
  refine t_L_cell S (k := 2) (by omega) (fun v_13 => ?_)
  show zW ro 167 55 [some (.ref 5), some (.ref 6)] [.int v_13, .ref 6] (zN L X (zhi s10) R G nc ns) Q
  refine zW.run 1 (pc' := 57) (ls' := [some (.ref 5), some (.ref 6)]) (st' := [.int (Int32.ofInt 100), .int v_13, .ref 6]) (σ' := (zN L X (zhi s10) R G nc ns)) (fun n => rfl) ?_
  refine zW.callS rfl rfl rfl rfl rfl (Nat.le_of_ble_eq_true rfl) ?_
  refine t_L_below S (v := v_13) (n := 100) (by omega) (fun k_14 f15 => ?_)
  show zW ro 167 60 [some (.ref 5), some (.ref 6)] [.int (Int32.ofInt (k_14 : Int)), .ref 6] (zN L X (zhi s10) R G nc ns) Q
  have hLO := f12
  have hMu := zMu_s p0 p1 hLO
  have hwh := zwh (w := (8 + (k_2 : Int))) (h := (8 + (k_5 : Int))) (by omega) (by omega)
  have hl1 := hLO.1
  have hl7 := (hLO.2.2.2.2 7 11 (by omega)).trans (p1 11)
  refine zW.callV rfl (by decide) rfl rfl rfl rfl rfl (Nat.le_of_ble_eq_true rfl) ?_
  refine t_S_muster S (d := (k_14 : Int)) (c := ((8 + (k_2 : Int)) * (8 + (k_5 : Int)))) (hMu) (by omega) (by omega) (by omega) (hl7.trans rfl) (by omega) (fun s16 v_17 f18 => ?_)
  show zW ro 167 63 [some (.ref 5), some (.ref 6)] [.int (Int32.ofInt v_17)] (zN L X (zhi s16) R G nc ns) Q
  refine zW.run 2 (pc' := 65) (ls' := [some (.ref 5), some (.ref 6)]) (st' := [.ref 6]) (σ' := (zN L X (zhi s16) R G nc ns)) (fun n => rfl) ?_
  have hMv := f18
  have hco := zMv_c hMv
  refine zW.callV rfl (by decide) rfl rfl rfl rfl rfl (Nat.le_of_ble_eq_true rfl) ?_
  refine t_S_begin S (zMv_7 hMv (hl7.trans rfl)) (hco.1) (hco.2) (fun v_19 => ?_)
  show zW ro 167 68 [some (.ref 5), some (.ref 6)] [.int (Int32.ofInt v_19)] (zN L X (zhi (zup (zup (zup s16 7 11 1) 21 10 (s16 21 0)) 22 10 (s16 22 0))) R G nc ns) Q
  refine zW.run 2 (pc' := 70) (ls' := [some (.ref 5), some (.ref 6)]) (st' := [.ref 6]) (σ' := (zN L X (zhi (zup (zup (zup s16 7 11 1) 21 10 (s16 21 0)) 22 10 (s16 22 0))) R G nc ns)) (fun n => rfl) ?_
  exact zW.aret rfl (hQ0 (8 + (k_2 : Int)) (8 + (k_5 : Int)) (zup (zup (zup s16 7 11 1) 21 10 (s16 21 0)) 22 10 (s16 22 0)) (by omega) (by omega) (⟨_, _, f12, f18, rfl⟩))
set_option maxRecDepth 20000 in
set_option maxHeartbeats 20000000 in
theorem t_L_law_a (S : zSR R) (V : zV g U F T B ph s)  (p0 : g 0 * g 1 = g 2) (p1 : g 8 ≤ 125 + (X.length : Int)) (hQ0 : ∀ (X1 : zK) (R1 : Nat → Nat → Option Nat) (G1 : Nat → Nat → Int64) (s1 : zJ) (P : Nat) (n : Int) (p : Int) (w : Int) (m1 : Nat) (m2 : Nat) (u7 : Option Value) (u8 : Option Value) (u9 : Option Value) (u10 : Option Value) (u11 : Option Value) (u12 : Option Value) (u13 : Option Value), zV g U F T B ph s1 → zSR R1 → n = g 2 → p = s1 7 14 → w = zcn s1 1 (g 2).toNat → (zK0 L ++ X1)[P]? = some (100, 2) → 66 ≤ P ∧ (P : Int) < 125 + (X1.length : Int) → s1 P 0 = zmm s1 0 12 ∧ s1 P 1 = zmm s1 1 12 → (∀ p f : Nat, p < 125 → s1 p f = s p f) → m1 ≤ nc + 301 → m2 ≤ ns + 6002 → zW zro 166 50 [some (.ref 5), some (.ref 6), some (.int (Int32.ofInt n)), some (.ref P), some (.int (Int32.ofInt p)), some (.int (Int32.ofInt w)), some (.int (Int32.ofInt ((0 : Nat) : Int))), u7, u8, u9, u10, u11, u12, u13] [] (zN L X1 (zhi s1) R1 G1 m1 m2) Q) : zW zro 166 4 [some (.ref 5), none, none, none, none, none, none, none, none, none, none, none, none, none] [.ref 6] (zN L X (zhi s) R G nc ns) Q := by
  have f1 := zA_geo (zV_zA V)
  have hB0 := zV_B V
  refine zW.run 2 (pc' := 6) (ls' := [some (.ref 5), some (.ref 6), none, none, none, none, none, none, none, none, none, none, none, none]) (st' := [.ref 6]) (σ' := (zN L X (zhi s) R G nc ns)) (fun n => rfl) ?_
  refine zW.callS rfl rfl rfl rfl rfl (Nat.le_of_ble_eq_true rfl) ?_
  refine t_L_size S V (by omega) (fun v_2 v_3 v_4 f5 f6 f7 => ?_)
  show zW zro 166 9 [some (.ref 5), some (.ref 6), none, none, none, none, none, none, none, none, none, none, none, none] [.int (Int32.ofInt v_2)] (zN L X (zhi s) R G v_3 v_4) Q
  refine zW.run 2 (pc' := 11) (ls' := [some (.ref 5), some (.ref 6), some (.int (Int32.ofInt v_2)), none, none, none, none, none, none, none, none, none, none, none]) (st' := [.int (Int32.ofInt 2)]) (σ' := (zN L X (zhi s) R G v_3 v_4)) (fun n => rfl) ?_
  refine zW.jnew3 S V (g8 := (g 8)) rfl (by omega) (fun P_8 X8 s8 R8 G8 S8 V8 ha8 hb8 hc8 hd8 hkP_8 he8 hf8 hr8 hg8 => ?_)
  have hl8 : X8.length = X.length + 1 := by rw [he8, List.length_append]; rfl
  show zW zro 166 13 [some (.ref 5), some (.ref 6), some (.int (Int32.ofInt v_2)), none, none, none, none, none, none, none, none, none, none, none] [.ref P_8] (zN L X8 (zhi s8) R8 G8 (v_3 + 1) (v_4 + 2)) Q
  refine zW.run 5 (pc' := 18) (ls' := [some (.ref 5), some (.ref 6), some (.int (Int32.ofInt v_2)), none, none, none, none, none, none, none, none, none, none, none]) (st' := [.int (Int32.ofInt 5), .int (Int32.ofInt 0), .ref 6, .int (Int32.ofInt 0), .ref P_8, .ref P_8]) (σ' := (zN L X8 (zhi s8) R8 G8 (v_3 + 1) (v_4 + 2))) (fun n => rfl) ?_
  refine zW.callV rfl (by decide) rfl rfl rfl rfl rfl (Nat.le_of_ble_eq_true rfl) ?_
  refine t_S_ofSide_0_5 S8 V8 (fun v_9 f10 f11 => ?_)
  show zW zro 166 21 [some (.ref 5), some (.ref 6), some (.int (Int32.ofInt v_2)), none, none, none, none, none, none, none, none, none, none, none] [.int (Int32.ofInt v_9), .int (Int32.ofInt 0), .ref P_8, .ref P_8] (zN L X8 (zhi s8) R8 G8 (v_3 + 1) (v_4 + 2)) Q
  refine zW.jast (n := 2) rfl hkP_8 (by decide) (by omega) ?_
  refine zW.run 5 (pc' := 27) (ls' := [some (.ref 5), some (.ref 6), some (.int (Int32.ofInt v_2)), none, none, none, none, none, none, none, none, none, none, none]) (st' := [.int (Int32.ofInt 5), .int (Int32.ofInt 1), .ref 6, .int (Int32.ofInt 1), .ref P_8, .ref P_8]) (σ' := (zN L X8 (zhi (zup s8 P_8 0 v_9)) R8 G8 (v_3 + 1) (v_4 + 2))) (fun n => rfl) ?_
  have V12 : zV g U F T B ph (zup s8 P_8 0 v_9) := (V_irr V8 (by omega))
  show zW zro 166 27 [some (.ref 5), some (.ref 6), some (.int (Int32.ofInt v_2)), none, none, none, none, none, none, none, none, none, none, none] [.int (Int32.ofInt 5), .int (Int32.ofInt 1), .ref 6, .int (Int32.ofInt 1), .ref P_8, .ref P_8] (zN L X8 (zhi (zup s8 P_8 0 v_9)) R8 G8 (v_3 + 1) (v_4 + 2)) Q
  generalize hs13 : (zup s8 P_8 0 v_9) = s13 at V12 ⊢
  have ka14 : ∀ p f : Nat, p < 125 → s13 p f = s8 p f := fun p f h9 => by rw [← hs13]; exact zup_nj (by omega)
  have kc15 : s13 P_8 0 = v_9 := by rw [← hs13]; exact zup_ej
  have kc16 : s13 P_8 1 = (s8 P_8 1) := by rw [← hs13]; exact (zup_nj (by omega))
  refine zW.callV rfl (by decide) rfl rfl rfl rfl rfl (Nat.le_of_ble_eq_true rfl) ?_
  refine t_S_ofSide_1_5 S8 V12 (fun v_17 f18 f19 => ?_)
  show zW zro 166 30 [some (.ref 5), some (.ref 6), some (.int (Int32.ofInt v_2)), none, none, none, none, none, none, none, none, none, none, none] [.int (Int32.ofInt v_17), .int (Int32.ofInt 1), .ref P_8, .ref P_8] (zN L X8 (zhi s13) R8 G8 (v_3 + 1) (v_4 + 2)) Q
  skip
  refine zW.jast (n := 2) rfl hkP_8 (by decide) (by omega) ?_
  refine zW.run 1 (pc' := 32) (ls' := [some (.ref 5), some (.ref 6), some (.int (Int32.ofInt v_2)), some (.ref P_8), none, none, none, none, none, none, none, none, none, none]) (st' := []) (σ' := (zN L X8 (zhi (zup s13 P_8 1 v_17)) R8 G8 (v_3 + 1) (v_4 + 2))) (fun n => rfl) ?_
  have V20 : zV g U F T B ph (zup s13 P_8 1 v_17) := (V_irr V12 (by omega))
  show zW zro 166 32 [some (.ref 5), some (.ref 6), some (.int (Int32.ofInt v_2)), some (.ref P_8), none, none, none, none, none, none, none, none, none, none] [] (zN L X8 (zhi (zup s13 P_8 1 v_17)) R8 G8 (v_3 + 1) (v_4 + 2)) Q
  generalize hs21 : (zup s13 P_8 1 v_17) = s21 at V20 ⊢
  have ka22 : ∀ p f : Nat, p < 125 → s21 p f = s13 p f := fun p f h9 => by rw [← hs21]; exact zup_nj (by omega)
  have kc23 : s21 P_8 0 = (s13 P_8 0) := by rw [← hs21]; exact (zup_nj (by omega))
  have kc24 : s21 P_8 1 = v_17 := by rw [← hs21]; exact zup_ej
  refine zW.run 2 (pc' := 34) (ls' := [some (.ref 5), some (.ref 6), some (.int (Int32.ofInt v_2)), some (.ref P_8), none, none, none, none, none, none, none, none, none, none]) (st' := [.int (Int32.ofInt 5), .ref 6]) (σ' := (zN L X8 (zhi s21) R8 G8 (v_3 + 1) (v_4 + 2))) (fun n => rfl) ?_
  refine zW.callV rfl (by decide) rfl rfl rfl rfl rfl (Nat.le_of_ble_eq_true rfl) ?_
  refine t_S_ofSiege_5 S8 V20 ?_
  show zW zro 166 37 [some (.ref 5), some (.ref 6), some (.int (Int32.ofInt v_2)), some (.ref P_8), none, none, none, none, none, none, none, none, none, none] [.int (Int32.ofInt (s21 7 14))] (zN L X8 (zhi s21) R8 G8 (v_3 + 1) (v_4 + 2)) Q
  have f25 := zV_sie V20
  refine zW.run 4 (pc' := 42) (ls' := [some (.ref 5), some (.ref 6), some (.int (Int32.ofInt v_2)), some (.ref P_8), some (.int (Int32.ofInt (s21 7 14))), none, none, none, none, none, none, none, none, none]) (st' := [.int (Int32.ofInt 1), .int (Int32.ofInt v_2), .ref 6]) (σ' := (zN L X8 (zhi s21) R8 G8 (v_3 + 1) (v_4 + 2))) (fun n => rfl) ?_
  refine zW.callS rfl rfl rfl rfl rfl (Nat.le_of_ble_eq_true rfl) ?_
  refine t_L_count S8 V20 (n := v_2) (x := 1) (by omega) (by omega) (fun v_26 f27 f28 => ?_)
  show zW zro 166 45 [some (.ref 5), some (.ref 6), some (.int (Int32.ofInt v_2)), some (.ref P_8), some (.int (Int32.ofInt (s21 7 14))), none, none, none, none, none, none, none, none, none] [.int (Int32.ofInt v_26)] (zN L X8 (zhi s21) R8 G8 (v_3 + 1) (v_4 + 2)) Q
  refine zW.run 1 (pc' := 47) (ls' := [some (.ref 5), some (.ref 6), some (.int (Int32.ofInt v_2)), some (.ref P_8), some (.int (Int32.ofInt (s21 7 14))), some (.int (Int32.ofInt v_26)), none, none, none, none, none, none, none, none]) (st' := []) (σ' := (zN L X8 (zhi s21) R8 G8 (v_3 + 1) (v_4 + 2))) (fun n => rfl) ?_
  have ec9 : ∀ p f : Nat, p < 125 → s21 p f = s p f := fun p f h9 => (ka22 p f h9).trans ((ka14 p f h9).trans (hb8 p f (by omega)))
  have em9 : ∀ d, zmm s21 d 12 = zmm s8 d 12 := fun d => zmm_eq (fun p f h9 => (ka22 p f (by omega)).trans (ka14 p f (by omega))) d
  have en9 : ∀ d, zmm s13 d 12 = zmm s8 d 12 := fun d => zmm_eq (fun p f h9 => ka14 p f (by omega)) d
  have em0 := em9 0
  have em1 := em9 1
  have en1 := en9 1
  have ef9 : s21 P_8 0 = zmm s21 0 12 ∧ s21 P_8 1 = zmm s21 1 12 := ⟨by omega, by omega⟩
  refine zW.run 2 (pc' := 50) (ls' := [some (.ref 5), some (.ref 6), some (.int (Int32.ofInt v_2)), some (.ref P_8), some (.int (Int32.ofInt (s21 7 14))), some (.int (Int32.ofInt v_26)), some (.int (Int32.ofInt 0)), none, none, none, none, none, none, none]) (st' := []) (σ' := (zN L X8 (zhi s21) R8 G8 (v_3 + 1) (v_4 + 2))) (fun n => rfl) ?_
  exact (hQ0 X8 R8 G8 s21 P_8 v_2 (s21 7 14) v_26 (v_3 + 1) (v_4 + 2) none none none none none none none V20 S8 (by omega) (rfl) (by assumption) (hkP_8) (by omega) (ef9) (ec9) (by omega) (by omega))
end ZB
