/-! the law, from its entry to its end -/
theorem lg_same (D : Int64) : lg_cmp D D = 0 := by
  unfold lg_cmp
  rw [if_neg (fun h => by have q := Int64.lt_iff_toInt_lt.mp h; omega), if_pos rfl]
/-- what holds before an hour of the law -/
def zLi (g : Nat → Int) (T B ph : Int) (X : zK) (L P nc ns : Nat) (n p w : Int) (i : Nat) : Prop := (n = g 2 ∧ p = g 7 ∧ w = g 6) ∧ ((zK0 L ++ X)[P]? = some (100, 2) ∧ (66 ≤ P ∧ (P : Int) < g 8) ∧ g 8 ≤ 125 + (X.length : Int)) ∧ (g (1000 + 2 * P) = g 4 ∧ g (1001 + 2 * P) = g 5) ∧ (0 ≤ g 4 ∧ g 4 ≤ 10000 ∧ 0 ≤ g 5 ∧ g 5 ≤ 10000 ∧ 0 ≤ g 7 ∧ g 7 ≤ 1000) ∧ (T ≤ 13 * i ∧ B ≤ 1000 + 100200 * i) ∧ (ph = 1 ∨ ph = 2) ∧ (nc ≤ 2000 + 200 * i ∧ ns ≤ 100000 + 2000 * i)
abbrev zLs0 (n p w : Int) (P : Nat) (i : Int) (u7 u8 u9 u10 u11 u12 u13 : Option Value) : zLs := [some (.ref 5), some (.ref 6), some (.int (Int32.ofInt n)), some (.ref P), some (.int (Int32.ofInt p)), some (.int (Int32.ofInt w)), some (.int (Int32.ofInt i)), u7, u8, u9, u10, u11, u12, u13]
section ZMAIN
variable {L : Nat} {X : zK} {s : zJ} {R : Nat → Nat → Option Nat} {G : Nat → Nat → Int64} {nc ns : Nat} {Q : zO → zS → Prop} {g : Nat → Int} {U F T B ph : Int}
set_option maxRecDepth 20000 in
theorem zlaw_end (S : zSR R) (V : zV g U F T B ph s) {n p w : Int} {P : Nat} {i : Nat} {u7 u8 u9 u10 u11 u12 u13 : Option Value} (H : zLi g T B ph X L P nc ns n p w i) (hQ : ∀ (X1 : zK) (s1 : zJ) (R1 : Nat → Nat → Option Nat) (G1 : Nat → Nat → Int64) (m1 m2 : Nat), m1 ≤ nc + 1 → m2 ≤ ns + 2 → Q (.inl (some (.int 1))) (zN L X1 (zhi s1) R1 G1 m1 m2)) : zW zro 166 395 (zLs0 n p w P (i : Int) u7 u8 u9 u10 u11 u12 u13) [] (zN L X (zhi s) R G nc ns) Q := by
  obtain ⟨⟨h1, h2, h3⟩, ⟨h4, h5, h6⟩, -⟩ := H
  obtain ⟨D, hD⟩ := zDg_ex (L := L) (G := G) S V
  refine zW.run 1 (pc' := 396) (ls' := zLs0 n p w P (i : Int) u7 u8 u9 u10 u11 u12 u13) (st' := [.ref 6]) (σ' := zN L X (zhi s) R G nc ns) (fun n => rfl) ?_
  refine zW.callV rfl (by decide) rfl rfl rfl rfl rfl (Nat.le_of_ble_eq_true rfl) ?_
  refine hD g U F T B ph X s R G nc ns _ S V (fun _ _ _ => rfl) (fun _ _ => rfl) (fun _ _ => rfl) ?_
  show zW zro 166 399 (zLs0 n p w P (i : Int) u7 u8 u9 u10 u11 u12 u13) [.long D] (zN L X (zhi s) R G nc ns) Q
  refine zW.run 4 (pc' := 405) (ls' := [some (.ref 5), some (.ref 6), some (.int (Int32.ofInt n)), some (.ref P), some (.int (Int32.ofInt p)), some (.int (Int32.ofInt w)), some (.long D), none, u8, u9, u10, u11, u12, u13]) (st' := [.int (Int32.ofInt w), .int (Int32.ofInt n), .ref 6]) (σ' := zN L X (zhi s) R G nc ns) (fun n => rfl) ?_
  refine zW.callS rfl rfl rfl rfl rfl (Nat.le_of_ble_eq_true rfl) ?_
  refine t_L_isSo S V h1 h3 h6 (fun X1 R1 G1 s1 m1 m2 V1 S1 e1 e2 e3 e4 e5 e6 e7 => ?_)
  show zW zro 166 408 [some (.ref 5), some (.ref 6), some (.int (Int32.ofInt n)), some (.ref P), some (.int (Int32.ofInt p)), some (.int (Int32.ofInt w)), some (.long D), none, u8, u9, u10, u11, u12, u13] [.int (Int32.ofInt 1)] (zN L X1 (zhi s1) R1 G1 m1 m2) Q
  refine zW.run 2 (pc' := 412) (ls' := [some (.ref 5), some (.ref 6), some (.int (Int32.ofInt n)), some (.ref P), some (.int (Int32.ofInt p)), some (.int (Int32.ofInt w)), some (.long D), none, u8, u9, u10, u11, u12, u13]) (st' := [.ref 6]) (σ' := zN L X1 (zhi s1) R1 G1 m1 m2) (fun n => rfl) ?_
  refine zW.callV rfl (by decide) rfl rfl rfl rfl rfl (Nat.le_of_ble_eq_true rfl) ?_
  refine (hD.mv e1 e2 e3) g U F T B ph X1 s1 R1 G1 m1 m2 _ S1 V1 (fun _ _ _ => rfl) (fun _ _ => rfl) (fun _ _ => rfl) ?_
  show zW zro 166 415 [some (.ref 5), some (.ref 6), some (.int (Int32.ofInt n)), some (.ref P), some (.int (Int32.ofInt p)), some (.int (Int32.ofInt w)), some (.long D), none, u8, u9, u10, u11, u12, u13] [.long D] (zN L X1 (zhi s1) R1 G1 m1 m2) Q
  refine zW.run 2 (pc' := 418) (ls' := [some (.ref 5), some (.ref 6), some (.int (Int32.ofInt n)), some (.ref P), some (.int (Int32.ofInt p)), some (.int (Int32.ofInt w)), some (.long D), none, u8, u9, u10, u11, u12, u13]) (st' := [.int (lg_cmp D D)]) (σ' := zN L X1 (zhi s1) R1 G1 m1 m2) (fun n => rfl) ?_
  rw [lg_same]
  refine zW.run 3 (pc' := 426) (ls' := [some (.ref 5), some (.ref 6), some (.int (Int32.ofInt n)), some (.ref P), some (.int (Int32.ofInt p)), some (.int (Int32.ofInt w)), some (.long D), none, u8, u9, u10, u11, u12, u13]) (st' := [.int (Int32.ofInt 1)]) (σ' := zN L X1 (zhi s1) R1 G1 m1 m2) (fun n => rfl) ?_
  exact zW.jretb rfl rfl (by decide) (hQ X1 s1 R1 G1 m1 m2 e6 e7)
set_option maxRecDepth 20000 in
theorem zlaw_loop (hL : L ≤ 260) (hQ : ∀ (X1 : zK) (s1 : zJ) (R1 : Nat → Nat → Option Nat) (G1 : Nat → Nat → Int64) (m1 m2 : Nat), m1 ≤ 20000 → m2 ≤ 200000 → Q (.inl (some (.int 1))) (zN L X1 (zhi s1) R1 G1 m1 m2)) {n p w : Int} {P : Nat} : ∀ (m i : Nat), 24 - i < m → i ≤ 24 → ∀ (g : Nat → Int) (U F T B ph : Int) (X : zK) (s : zJ) (R : Nat → Nat → Option Nat) (G : Nat → Nat → Int64) (nc ns : Nat) (u7 u8 u9 u10 u11 u12 u13 : Option Value), zSR R → zV g U F T B ph s → zLi g T B ph X L P nc ns n p w i → zW zro 166 50 (zLs0 n p w P (i : Int) u7 u8 u9 u10 u11 u12 u13) [] (zN L X (zhi s) R G nc ns) Q := by
  intro m
  induction m with
  | zero => intros; omega
  | succ m ih =>
    intro i hm hi g U F T B ph X s R G nc ns u7 u8 u9 u10 u11 u12 u13 S V H
    refine zW.run 2 (pc' := 54) (ls' := zLs0 n p w P (i : Int) u7 u8 u9 u10 u11 u12 u13) (st' := [.int (Int32.ofInt 24), .int (Int32.ofInt (i : Int))]) (σ' := zN L X (zhi s) R G nc ns) (fun n => rfl) ?_
    refine zW.jcmp_ge rfl (by omega) (fun c => ?_) (fun c => ?_)
    · exact zlaw_end S V H (fun X1 s1 R1 G1 m1 m2 q1 q2 => hQ X1 s1 R1 G1 m1 m2 (by have q := H.2.2.2.2.2.2; omega) (by have q := H.2.2.2.2.2.2; omega))
    · obtain ⟨⟨a1, a2, a3⟩, ⟨a4, a5, a6⟩, ⟨a7, a8⟩, a9, ⟨a10, a11⟩, a12, a13, a14⟩ := H
      have hL1 := zV_zL1 V
      have hF : 0 ≤ s 7 13 := Int.le_trans hL1.2.2.2.2 hL1.2.2.1
      have hX := zV_zX1 V P a5.1 a5.2
      obtain ⟨g2, k0, k8, kp, V2⟩ := zreg V (g 8) (zmm s 0 12 + zmm s 1 12) (s 7 13) (Int.le_refl _) ⟨hF, Int.le_refl _⟩
      have k2 := k0 2 (by decide)
      have k4 := k0 4 (by decide)
      have k5 := k0 5 (by decide)
      have k6 := k0 6 (by decide)
      have k7 := k0 7 (by decide)
      have kP := kp P
      have hhr := t_L_law_h (Q := Q) (L := L) (X := X) (G := G) (nc := nc) (ns := ns) S V2 (n := n) (p := p) (w := w) (i := i) (P := P) (j7 := u7) (j8 := u8) (j9 := u9) (j10 := u10) (j11 := u11) (j12 := u12) (j13 := u13) (by omega) (by omega) (by omega) (by omega) hL a4 ⟨a5.1, by omega⟩ (by omega) ⟨by omega, by omega⟩ (by omega) rfl rfl (by omega) a12
      refine hhr (fun X1 R1 G1 s1 t q m1 m2 v7 v8 v9 v10 v11 v12 v13 V3 S3 f1 f2 f3 f4 f5 f6 => ?_)
      refine zW.jinc (ls' := zLs0 n p w P ((i : Int) + 1) v7 v8 v9 v10 v11 v12 v13) rfl (Nat.le_of_ble_eq_true rfl) rfl rfl ?_
      refine zW.run 1 (pc' := 50) (ls' := zLs0 n p w P ((i : Int) + 1) v7 v8 v9 v10 v11 v12 v13) (st' := []) (σ' := zN L X1 (zhi s1) R1 G1 m1 m2) (fun n => rfl) ?_
      exact ih (i + 1) (by omega) (by omega) g2 _ _ t (B + 100200) q X1 s1 R1 G1 m1 m2 v7 v8 v9 v10 v11 v12 v13 S3 V3 ⟨⟨by omega, by omega, by omega⟩, ⟨f3, ⟨a5.1, by omega⟩, f4⟩, ⟨by omega, by omega⟩, by omega, ⟨by omega, by omega⟩, f1, by omega, by omega⟩
end ZMAIN
/-- seven cells: the six that were there, and the main object -/
def zK7 (L : Nat) : zK := [(200, 4), (200, 4), (200, 6), (200, 6), (200, 6), (200, L), (0, 2)]
def zK66 (L : Nat) : zK := zK7 L ++ zS1
theorem zRa_b : ∀ p, p < 5 → ∀ k, k < 6 → 0 ≤ ((zRa.getD p []).getD k 0).toInt ∧ ((zRa.getD p []).getD k 0).toInt ≤ 12 := by decide
set_option maxRecDepth 20000 in
set_option maxHeartbeats 8000000 in
theorem t_L_siege {L : Nat} {xs : Nat → Int32} {Q : zO → zS → Prop} (hL : L ≤ 260) (hQ : ∀ (w h : Int) (sF s1 : zJ) (R : Nat → Nat → Option Nat) (G : Nat → Nat → Int64) (nc ns : Nat), 8 ≤ w ∧ w ≤ 12 → 8 ≤ h ∧ h ≤ 12 → zSR R → (∀ o f, 0 < o → o < 59 → sF (7 + o) f = zIv o f) → (∀ f, sF 7 f = if f = 12 then -1 else 0) → (∀ p k : Nat, p < 5 → k < 6 → 0 ≤ sF p k ∧ sF p k ≤ 12) → zBg w h sF s1 → nc ≤ 300 → ns ≤ 10000 → Q (.inl (some (.ref 6))) (zN L [] (zhi s1) R G nc ns)) : zW zro 167 0 (zfst [.ref 5] 2) [] (zs0 L xs) Q := by
  show zW zro 167 0 [some (.ref 5), none] [] (zs0 L xs) Q
  obtain ⟨s0, hs0⟩ : ∃ s0 : zJ, s0 = fun p f => (zupR (zRO L xs).1 6 (fun _ => 0) p f).toInt := ⟨_, rfl⟩
  have e0 : zhi s0 = zupR (zRO L xs).1 6 (fun _ => 0) := by
    funext p f
    show Int32.ofInt (s0 p f) = _
    rw [hs0]
    exact Int32.ofInt_toInt _
  have hr0 : ∀ p k : Nat, p < 5 → k < 6 → 0 ≤ s0 p k ∧ s0 p k ≤ 12 := fun p k hp hk => by
    have e1 : s0 p k = ((zRa.getD p []).getD k 0).toInt := by
      rw [hs0]
      show ((if p = 6 then fun _ => (0 : Int32) else (zRO L xs).1 p) k).toInt = _
      rw [if_neg (by omega)]
      show (if p < 5 then (zRa.getD p []).getD k 0 else xs k).toInt = _
      rw [if_pos hp]
    rw [e1]
    exact zRa_b p hp k hk
  refine zW.go (pc' := 3) (ls' := [some (.ref 5), none]) (st' := [.ref 6]) (σ' := zCn (zK7 L) 0 s0 (zupR (fun _ _ => none) 6 (fun _ => none)) (zupR (fun _ _ => 0) 6 (fun _ => 0)) 1 2) rfl (fun rec => ?_) ?_
  · dsimp only [zst]
    rw [if_pos rfl]
    unfold znw
    dsimp only [zCn]
    rw [e0]
    rfl
  refine zW.run 1 (pc' := 4) (ls' := [some (.ref 5), none]) (st' := [.ref 6, .ref 6]) (σ' := zCn (zK7 L) 0 s0 (zupR (fun _ _ => none) 6 (fun _ => none)) (zupR (fun _ _ => 0) 6 (fun _ => 0)) 1 2) (fun n => rfl) ?_
  refine zW.callI rfl (by decide) rfl rfl rfl rfl (by rfl) (Nat.le_of_ble_eq_true rfl) ?_
  show zW zro 0 0 [some (.ref 6)] [] (zCn (zK7 L) 0 s0 (zupR (fun _ _ => none) 6 (fun _ => none)) (zupR (fun _ _ => 0) 6 (fun _ => 0)) 1 2) _
  refine zW.run 3 (pc' := 5) (ls' := [some (.ref 6)]) (st' := [.ref 6]) (σ' := zCn (zK7 L) 0 s0 (zupR (fun _ _ => none) 6 (fun _ => none)) (zupR (fun _ _ => 0) 6 (fun _ => 0)) 1 2) (fun n => rfl) ?_
  refine zW.cnew (K0 := zK7 L) (p := 7) (m := 0) rfl rfl rfl rfl (fun s1 R1 G1 a1 b1 c1 => ?_)
  refine zW.run 1 (pc' := 9) (ls' := [some (.ref 6)]) (st' := [.ref 7, .ref 7, .ref 6]) (σ' := zCn (zK7 L) 1 s1 R1 G1 2 19) (fun n => rfl) ?_
  refine zW.callI rfl (by decide) rfl rfl rfl rfl (by rfl) (Nat.le_of_ble_eq_true rfl) ?_
  refine c_Siege (K0 := zK7 L) (p := 7) rfl b1 (fun s2 R2 G2 n2 m2 h2 d2 e2 => ?_)
  show zW zro 0 12 [some (.ref 6)] [.ref 7, .ref 6] (zCn (zK7 L) 59 s2 R2 G2 n2 m2) _
  refine zW.cputr (K0 := zK7 L) (m := 59) (a := 6) (b := 7) rfl (by rfl) rfl rfl ?_
  have e66 : ∀ (s : zJ) (R : Nat → Nat → Option Nat) (G : Nat → Nat → Int64) (nc ns : Nat), zCn (zK7 L) 59 s R G nc ns = zCn (zK66 L) 0 s R G nc ns := fun s R G nc ns => rfl
  rw [e66]
  refine zW.run 1 (pc' := 16) (ls' := [some (.ref 6)]) (st' := [.ref 6]) (σ' := zCn (zK66 L) 0 s2 (zup R2 6 0 (some 7)) G2 n2 m2) (fun n => rfl) ?_
  refine zW.cnew (K0 := zK66 L) (p := 66) (m := 0) rfl rfl rfl rfl (fun s3 R3 G3 a3 b3 c3 => ?_)
  refine zW.run 1 (pc' := 20) (ls' := [some (.ref 6)]) (st' := [.ref 66, .ref 66, .ref 6]) (σ' := zCn (zK66 L) 1 s3 R3 G3 (n2 + 1) (m2 + 17)) (fun n => rfl) ?_
  refine zW.callI rfl (by decide) rfl rfl rfl rfl (by rfl) (Nat.le_of_ble_eq_true rfl) ?_
  refine c_Siege (K0 := zK66 L) (p := 66) rfl b3 (fun s4 R4 G4 n4 m4 h4 d4 e4 => ?_)
  show zW zro 0 23 [some (.ref 6)] [.ref 66, .ref 6] (zCn (zK66 L) 59 s4 R4 G4 n4 m4) _
  refine zW.cputr (K0 := zK66 L) (m := 59) (a := 6) (b := 66) rfl (by rfl) rfl rfl ?_
  refine zW.vret rfl ?_
  show zW zro 167 7 [some (.ref 5), none] [.ref 6] (zCn (zK66 L) 59 s4 (zup R4 6 1 (some 66)) G4 n4 m4) Q
  have eN : ∀ (s : zJ) (R : Nat → Nat → Option Nat) (G : Nat → Nat → Int64) (nc ns : Nat), zCn (zK66 L) 59 s R G nc ns = zN L [] (zhi s) R G nc ns := fun s R G nc ns => rfl
  rw [eN]
  -- the cells of the live siege are as they were made
  have kS : ∀ a f, a < 66 → s4 a f = s2 a f := fun a f ha => (h4.1.1 a f ha).trans (a3 a f (by omega))
  have kR : ∀ a, a < 66 → a ≠ 6 → (zup R4 6 1 (some 66)) a = R2 a := fun a ha hb => by
    rw [zupO_ne hb, h4.2.1.1 a ha, c3 a (by omega), zupO_ne hb]
  have kR6 : (zup R4 6 1 (some 66)) 6 0 = some 7 := by
    rw [zupO_eq, if_neg (by decide), h4.2.1.1 6 (by decide), c3 6 (by decide), zupO_eq, if_pos rfl]
  obtain ⟨hS, hq, hg, hc, hm, hmr⟩ := h2
  obtain ⟨-, r0, r1, r2, r3, r4, r5, r6, rp, rq, rg⟩ := hq
  have SR : zSR (zup R4 6 1 (some 66)) := by
    refine ⟨kR6, ?_, ?_, ?_, ?_, ?_, ?_, ?_, ?_, ?_, fun f hf => ?_, fun i hi => ?_, fun i hi => ?_, fun i hi => ?_, fun i hi => ?_⟩
    · rw [kR 7 (by decide) (by decide)]; exact r0
    · rw [kR 7 (by decide) (by decide)]; exact r1
    · rw [kR 7 (by decide) (by decide)]; exact r2
    · rw [kR 7 (by decide) (by decide)]; exact r3
    · rw [kR 7 (by decide) (by decide)]; exact r4
    · rw [kR 7 (by decide) (by decide)]; exact r5
    · rw [kR 7 (by decide) (by decide)]; exact r6
    · rw [kR 23 (by decide) (by decide)]; exact rp
    · rw [kR 23 (by decide) (by decide)]; exact rq
    · rw [kR 8 (by decide) (by decide)]; exact (rg f hf).trans (congrArg some (by omega))
    · rw [kR 18 (by decide) (by decide)]; exact (hg i hi).trans (congrArg some (by omega))
    · rw [kR 19 (by decide) (by decide)]; exact (hc i hi).trans (congrArg some (by omega))
    · rw [kR 20 (by decide) (by decide)]; exact (hm i hi).trans (congrArg some (by omega))
    · rw [kR (54 + 2 * i) (by omega) (by omega), show 54 + 2 * i = 7 + (47 + 2 * i) by omega]
      exact (hmr i hi).trans (congrArg some (by omega))
  have hfr : ∀ o f, 0 < o → o < 59 → s4 (7 + o) f = zIv o f := fun o f h1 h2 => (kS _ f (by omega)).trans (hS.2.1 o f h1 h2)
  have hf7 : ∀ f, s4 7 f = if f = 12 then -1 else 0 := fun f => (kS 7 f (by decide)).trans (hS.2.2 f)
  have hrw : ∀ p k : Nat, p < 5 → k < 6 → 0 ≤ s4 p k ∧ s4 p k ≤ 12 := fun p k hp hk => by
    rw [kS p k (by omega), hS.1 p k (by omega), a1 p k (by omega)]
    exact hr0 p k hp hk
  refine t_L_siege_2 SR hfr hf7 hrw hL (fun w h s5 hw hh hB => ?_)
  exact hQ w h s4 s5 _ _ _ _ hw hh SR hfr hf7 hrw hB (by omega) (by omega)
set_option maxRecDepth 20000 in
set_option maxHeartbeats 8000000 in
theorem zlaw_run {L : Nat} {xs : Nat → Int32} (hL : L ≤ 260) : ∃ (n : Nat) (σ' : zS), zx zP zFt zro n 166 0 (zfst [.ref 5] 14) [] (zs0 L xs) = some (.inl (some (.int 1)), σ') ∧ znc σ' ≤ 20000 ∧ zns σ' ≤ 200000 := by
  have key : zW zro 166 0 (zfst [.ref 5] 14) [] (zs0 L xs) (fun o σ' => o = .inl (some (.int 1)) ∧ znc σ' ≤ 20000 ∧ zns σ' ≤ 200000) := by
    show zW zro 166 0 [some (.ref 5), none, none, none, none, none, none, none, none, none, none, none, none, none] [] (zs0 L xs) _
    refine zW.run 1 (pc' := 1) (ls' := [some (.ref 5), none, none, none, none, none, none, none, none, none, none, none, none, none]) (st' := [.ref 5]) (σ' := zs0 L xs) (fun n => rfl) ?_
    refine zW.callS rfl rfl rfl rfl rfl (Nat.le_of_ble_eq_true rfl) ?_
    refine t_L_siege hL (fun w h sF s1 R G nc ns hw hh S hfr hf7 hrw hB hnc hns => ?_)
    show zW zro 166 4 [some (.ref 5), none, none, none, none, none, none, none, none, none, none, none, none, none] [.ref 6] (zN L [] (zhi s1) R G nc ns) _
    obtain ⟨s2, s3, hLO, hMv, es1⟩ := hB
    obtain ⟨V0, b4, b5, b7⟩ := zV_start hfr hf7 hrw hw hh rfl hLO hMv
    rw [← es1] at V0 b4 b5 b7
    refine t_L_law_a S V0 rfl (by show (66 : Int) ≤ _; omega) (fun X1 R1 G1 s5 P n p w' m1 m2 u7 u8 u9 u10 u11 u12 u13 V1 S1 f0 f1 f2 f3 f4 f5 f6 f7 f8 => ?_)
    have ez : ∀ d, zmm s5 d 12 = zmm s1 d 12 := fun d => zmm_eq (fun p f h9 => f6 p f (by omega)) d
    have ec : ∀ k, zcn s5 k (w * h).toNat = zcn s1 k (w * h).toNat := fun k => zsm_eq (fun j hj => by rw [f6 11 j (by decide)])
    have hU : zmm s5 0 12 + zmm s5 1 12 ≤ zmm s1 0 12 + zmm s1 1 12 := by rw [ez, ez]; exact Int.le_refl _
    obtain ⟨g2, k0, k8, kp, V2⟩ := zreg V1 ((P : Int) + 1) _ 0 hU ⟨Int.le_refl 0, (zV_zL1 V1).2.2.1⟩
    have q2 : g2 2 = w * h := k0 2 (by decide)
    have q4 : g2 4 = zmm s1 0 12 := k0 4 (by decide)
    have q5 : g2 5 = zmm s1 1 12 := k0 5 (by decide)
    have q6 : g2 6 = zcn s1 1 (w * h).toNat := k0 6 (by decide)
    have q7 : g2 7 = s1 7 14 := k0 7 (by decide)
    have e14 := f6 7 14 (by decide)
    have ez0 := ez 0
    have ez1 := ez 1
    have ec1 := ec 1
    have f0' : n = w * h := f0
    have f2' : w' = zcn s5 1 (w * h).toNat := f2
    have kP := kp P
    exact zlaw_loop hL (fun X1 s1 R1 G1 m1 m2 h1 h2 => ⟨rfl, h1, h2⟩) 25 0 (by decide) (by decide) g2 _ _ 0 1000 1 X1 s5 R1 G1 m1 m2 u7 u8 u9 u10 u11 u12 u13 S1 V2 ⟨⟨by omega, by omega, by omega⟩, ⟨f3, ⟨f4.1, by omega⟩, by omega⟩, ⟨by omega, by omega⟩, by omega, ⟨by omega, by omega⟩, Or.inl rfl, by omega, by omega⟩
  obtain ⟨n, o, σ', h, ho, h1, h2⟩ := key
  rw [ho] at h
  exact ⟨n, σ', h, h1, h2⟩
