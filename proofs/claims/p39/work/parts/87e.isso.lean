/-! all that must be so -/
section ZIS
variable {L : Nat} {X : zK} {s : zJ} {R : Nat → Nat → Option Nat} {G : Nat → Nat → Int64} {nc ns : Nat} {Q : zO → zS → Prop} {g : Nat → Int} {U F T B ph : Int}
set_option maxRecDepth 20000 in
set_option maxHeartbeats 4000000 in
theorem z_is_m (S : zSR R) (V : zV g U F T B ph s) {n w a b : Int} {P : Nat} (h1 : n = g 2) (h2 : w = g 6) (hP : (zK0 L ++ X)[P]? = some (100, 2)) (hP2 : 66 ≤ P ∧ g 8 ≤ (P : Int) ∧ 125 ≤ P) (e0 : s P 0 = zmm s 0 12) (e1 : s P 1 = zmm s 1 12) (ha : a = zcp s 8) (hb : b = zrp s 6) (hQ : Q (.inl (some (.int (Int32.ofInt 1)))) (zN L X (zhi s) R G nc ns)) : ∀ (m i : Nat), 6 - i < m → i ≤ 6 → ∀ (u7 u8 : Option Value), zW zro 165 580 [some (.ref 6), some (.int (Int32.ofInt n)), some (.int (Int32.ofInt w)), some (.ref P), some (.int (Int32.ofInt a)), some (.int (Int32.ofInt b)), some (.int (Int32.ofInt (i : Int))), u7, u8] [] (zN L X (zhi s) R G nc ns) Q := by
  have hm := (zV_zM2 V).1
  intro m
  induction m with
  | zero => intros; omega
  | succ m ih =>
    intro i hi hi6 u7 u8
    refine zW.run 3 (pc' := 585) (ls' := [some (.ref 6), some (.int (Int32.ofInt n)), some (.int (Int32.ofInt w)), some (.ref P), some (.int (Int32.ofInt a)), some (.int (Int32.ofInt b)), some (.int (Int32.ofInt (i : Int))), u7, u8]) (st' := [.int (Int32.ofInt 12), .ref 6, .int (Int32.ofInt (i : Int))]) (σ' := zN L X (zhi s) R G nc ns) (fun n => rfl) ?_
    refine zW.callV rfl (by decide) rfl rfl rfl rfl rfl (Nat.le_of_ble_eq_true rfl) ?_
    refine t_S_ofSiege_12 S V ?_
    show zW zro 165 588 [some (.ref 6), some (.int (Int32.ofInt n)), some (.int (Int32.ofInt w)), some (.ref P), some (.int (Int32.ofInt a)), some (.int (Int32.ofInt b)), some (.int (Int32.ofInt (i : Int))), u7, u8] [.int (Int32.ofInt (s 7 9)), .int (Int32.ofInt (i : Int))] (zN L X (zhi s) R G nc ns) Q
    refine zW.jcmp_ge rfl (by omega) (fun c => ?_) (fun c => ?_)
    · exact t_L_isSo_s S V hP hP2 e0 e1 (fun v6 v7 v8 => t_L_isSo_t S V h1 ha hb (fun x3 x4 x5 x8 d e f1 f2 f3 f4 => t_L_isSo_v S V h1 h2 f1 f2 f3 f4 hQ))
    · refine t_L_isSo_m S V c (by omega) (fun v7 v8 => ?_)
      refine zW.jinc (ls' := [some (.ref 6), some (.int (Int32.ofInt n)), some (.int (Int32.ofInt w)), some (.ref P), some (.int (Int32.ofInt a)), some (.int (Int32.ofInt b)), some (.int (Int32.ofInt ((i : Int) + 1))), v7, v8]) rfl (Nat.le_of_ble_eq_true rfl) rfl rfl ?_
      refine zW.run 1 (pc' := 580) (ls' := [some (.ref 6), some (.int (Int32.ofInt n)), some (.int (Int32.ofInt w)), some (.ref P), some (.int (Int32.ofInt a)), some (.int (Int32.ofInt b)), some (.int (Int32.ofInt ((i : Int) + 1))), v7, v8]) (st' := []) (σ' := zN L X (zhi s) R G nc ns) (fun n => rfl) ?_
      exact ih (i + 1) (by omega) (by omega) v7 v8
set_option maxRecDepth 20000 in
set_option maxHeartbeats 4000000 in
theorem z_is_u (S : zSR R) (V : zV g U F T B ph s) {n w a : Int} {P : Nat} (h1 : n = g 2) (h2 : w = g 6) (hP : (zK0 L ++ X)[P]? = some (100, 2)) (hP2 : 66 ≤ P ∧ g 8 ≤ (P : Int) ∧ 125 ≤ P) (e0 : s P 0 = zmm s 0 12) (e1 : s P 1 = zmm s 1 12) (ha : a = zcp s 8) (hQ : Q (.inl (some (.int (Int32.ofInt 1)))) (zN L X (zhi s) R G nc ns)) : ∀ (m i : Nat), 6 - i < m → i ≤ 6 → ∀ (b : Int) (u7 u8 : Option Value), b = zrp s i → 0 ≤ b ∧ b ≤ i → zW zro 165 447 [some (.ref 6), some (.int (Int32.ofInt n)), some (.int (Int32.ofInt w)), some (.ref P), some (.int (Int32.ofInt a)), some (.int (Int32.ofInt b)), some (.int (Int32.ofInt (i : Int))), u7, u8] [] (zN L X (zhi s) R G nc ns) Q := by
  intro m
  induction m with
  | zero => intros; omega
  | succ m ih =>
    intro i hi hi6 b u7 u8 hb hb2
    refine zW.run 2 (pc' := 451) (ls' := [some (.ref 6), some (.int (Int32.ofInt n)), some (.int (Int32.ofInt w)), some (.ref P), some (.int (Int32.ofInt a)), some (.int (Int32.ofInt b)), some (.int (Int32.ofInt (i : Int))), u7, u8]) (st' := [.int (Int32.ofInt 6), .int (Int32.ofInt (i : Int))]) (σ' := zN L X (zhi s) R G nc ns) (fun n => rfl) ?_
    refine zW.jcmp_ge rfl (by omega) (fun c => ?_) (fun c => ?_)
    · have e6 : i = 6 := by omega
      refine zW.run 2 (pc' := 580) (ls' := [some (.ref 6), some (.int (Int32.ofInt n)), some (.int (Int32.ofInt w)), some (.ref P), some (.int (Int32.ofInt a)), some (.int (Int32.ofInt b)), some (.int (Int32.ofInt ((0 : Nat) : Int))), u7, u8]) (st' := []) (σ' := zN L X (zhi s) R G nc ns) (fun n => rfl) ?_
      exact z_is_m S V h1 h2 hP hP2 e0 e1 ha (by rw [hb, e6]) hQ 7 0 (by decide) (by decide) u7 u8
    · refine t_L_isSo_u S V (by omega) (by omega) (fun b1 v7 v8 f1 f2 => ?_)
      refine zW.jinc (ls' := [some (.ref 6), some (.int (Int32.ofInt n)), some (.int (Int32.ofInt w)), some (.ref P), some (.int (Int32.ofInt a)), some (.int (Int32.ofInt b1)), some (.int (Int32.ofInt ((i : Int) + 1))), v7, v8]) rfl (Nat.le_of_ble_eq_true rfl) rfl rfl ?_
      refine zW.run 1 (pc' := 447) (ls' := [some (.ref 6), some (.int (Int32.ofInt n)), some (.int (Int32.ofInt w)), some (.ref P), some (.int (Int32.ofInt a)), some (.int (Int32.ofInt b1)), some (.int (Int32.ofInt ((i : Int) + 1))), v7, v8]) (st' := []) (σ' := zN L X (zhi s) R G nc ns) (fun n => rfl) ?_
      exact ih (i + 1) (by omega) (by omega) b1 v7 v8 (by omega) (by omega)
set_option maxRecDepth 20000 in
set_option maxHeartbeats 4000000 in
theorem z_is_c (S : zSR R) (V : zV g U F T B ph s) {n w : Int} {P : Nat} (h1 : n = g 2) (h2 : w = g 6) (hP : (zK0 L ++ X)[P]? = some (100, 2)) (hP2 : 66 ≤ P ∧ g 8 ≤ (P : Int) ∧ 125 ≤ P) (e0 : s P 0 = zmm s 0 12) (e1 : s P 1 = zmm s 1 12) (hQ : Q (.inl (some (.int (Int32.ofInt 1)))) (zN L X (zhi s) R G nc ns)) : ∀ (m i : Nat), 8 - i < m → i ≤ 8 → ∀ (a : Int) (u6 u7 u8 : Option Value), a = zcp s i → 0 ≤ a ∧ a ≤ i → zW zro 165 272 [some (.ref 6), some (.int (Int32.ofInt n)), some (.int (Int32.ofInt w)), some (.ref P), some (.int (Int32.ofInt a)), some (.int (Int32.ofInt (i : Int))), u6, u7, u8] [] (zN L X (zhi s) R G nc ns) Q := by
  intro m
  induction m with
  | zero => intros; omega
  | succ m ih =>
    intro i hi hi8 a u6 u7 u8 ha ha2
    refine zW.run 2 (pc' := 276) (ls' := [some (.ref 6), some (.int (Int32.ofInt n)), some (.int (Int32.ofInt w)), some (.ref P), some (.int (Int32.ofInt a)), some (.int (Int32.ofInt (i : Int))), u6, u7, u8]) (st' := [.int (Int32.ofInt 8), .int (Int32.ofInt (i : Int))]) (σ' := zN L X (zhi s) R G nc ns) (fun n => rfl) ?_
    refine zW.jcmp_ge rfl (by omega) (fun c => ?_) (fun c => ?_)
    · have e8 : i = 8 := by omega
      refine zW.run 4 (pc' := 447) (ls' := [some (.ref 6), some (.int (Int32.ofInt n)), some (.int (Int32.ofInt w)), some (.ref P), some (.int (Int32.ofInt a)), some (.int (Int32.ofInt 0)), some (.int (Int32.ofInt ((0 : Nat) : Int))), u7, u8]) (st' := []) (σ' := zN L X (zhi s) R G nc ns) (fun n => rfl) ?_
      exact z_is_u S V h1 h2 hP hP2 e0 e1 (by rw [ha, e8]) hQ 7 0 (by decide) (by decide) 0 u7 u8 rfl (by decide)
    · refine t_L_isSo_c S V (by omega) (by omega) (fun a1 v6 v7 v8 f1 f2 => ?_)
      refine zW.jinc (ls' := [some (.ref 6), some (.int (Int32.ofInt n)), some (.int (Int32.ofInt w)), some (.ref P), some (.int (Int32.ofInt a1)), some (.int (Int32.ofInt ((i : Int) + 1))), v6, v7, v8]) rfl (Nat.le_of_ble_eq_true rfl) rfl rfl ?_
      refine zW.run 1 (pc' := 272) (ls' := [some (.ref 6), some (.int (Int32.ofInt n)), some (.int (Int32.ofInt w)), some (.ref P), some (.int (Int32.ofInt a1)), some (.int (Int32.ofInt ((i : Int) + 1))), v6, v7, v8]) (st' := []) (σ' := zN L X (zhi s) R G nc ns) (fun n => rfl) ?_
      exact ih (i + 1) (by omega) (by omega) a1 v6 v7 v8 (by omega) (by omega)
set_option maxRecDepth 20000 in
set_option maxHeartbeats 4000000 in
theorem z_is_q {s0 : zJ} (S : zSR R) {n w : Int} {P : Nat} (V0 : zV g U F T B ph s0) (h1 : n = g 2) (h2 : w = g 6) (hP : (zK0 L ++ X)[P]? = some (100, 2)) (hP2 : 66 ≤ P ∧ g 8 ≤ (P : Int) ∧ 125 ≤ P) (hQ : ∀ s1 : zJ, zV g U F T B ph s1 → (∀ p f : Nat, p < 125 → s1 p f = s0 p f) → Q (.inl (some (.int (Int32.ofInt 1)))) (zN L X (zhi s1) R G nc ns)) : ∀ (m k : Nat), 145 - k < m → (k : Int) ≤ g 2 → ∀ (s : zJ) (u5 u6 u7 u8 : Option Value), zV g U F T B ph s → (∀ p f : Nat, p < 125 → s p f = s0 p f) → s P 0 = zml s0 0 k 12 → s P 1 = zml s0 1 k 12 → zW zro 165 7 [some (.ref 6), some (.int (Int32.ofInt n)), some (.int (Int32.ofInt w)), some (.ref P), some (.int (Int32.ofInt (k : Int))), u5, u6, u7, u8] [] (zN L X (zhi s) R G nc ns) Q := by
  have hg := zA_geo (zV_zA V0)
  intro m
  induction m with
  | zero => intros; omega
  | succ m ih =>
    intro k hk hkg s u5 u6 u7 u8 V e e0 e1
    refine zW.run 2 (pc' := 10) (ls' := [some (.ref 6), some (.int (Int32.ofInt n)), some (.int (Int32.ofInt w)), some (.ref P), some (.int (Int32.ofInt (k : Int))), u5, u6, u7, u8]) (st' := [.int (Int32.ofInt n), .int (Int32.ofInt (k : Int))]) (σ' := zN L X (zhi s) R G nc ns) (fun n => rfl) ?_
    refine zW.jcmp_ge rfl (by omega) (fun c => ?_) (fun c => ?_)
    · have ek : (k : Int) = g 2 := by omega
      rw [ek, zml_C V0] at e0 e1
      have z0 : zmm s 0 12 = zmm s0 0 12 := zmm_eq (fun p f h9 => e p f (by omega)) 0
      have z1 : zmm s 1 12 = zmm s0 1 12 := zmm_eq (fun p f h9 => e p f (by omega)) 1
      refine zW.run 4 (pc' := 272) (ls' := [some (.ref 6), some (.int (Int32.ofInt n)), some (.int (Int32.ofInt w)), some (.ref P), some (.int (Int32.ofInt 0)), some (.int (Int32.ofInt ((0 : Nat) : Int))), u6, u7, u8]) (st' := []) (σ' := zN L X (zhi s) R G nc ns) (fun n => rfl) ?_
      exact z_is_c S V h1 h2 hP hP2 (e0.trans z0.symm) (e1.trans z1.symm) (hQ s V e) 9 0 (by decide) (by decide) 0 u6 u7 u8 rfl (by decide)
    · refine t_L_isSo_q S V (by omega) hP hP2 (fun s1 v5 v6 v7 v8 V1 f1 f2 f3 => ?_)
      refine zW.jinc (ls' := [some (.ref 6), some (.int (Int32.ofInt n)), some (.int (Int32.ofInt w)), some (.ref P), some (.int (Int32.ofInt ((k : Int) + 1))), v5, v6, v7, v8]) rfl (Nat.le_of_ble_eq_true rfl) rfl rfl ?_
      refine zW.run 1 (pc' := 7) (ls' := [some (.ref 6), some (.int (Int32.ofInt n)), some (.int (Int32.ofInt w)), some (.ref P), some (.int (Int32.ofInt ((k : Int) + 1))), v5, v6, v7, v8]) (st' := []) (σ' := zN L X (zhi s1) R G nc ns) (fun n => rfl) ?_
      have z0 : zml s0 0 (((k + 1 : Nat)) : Int) 12 = zml s0 0 (k : Int) 12 + zma s0 0 (k : Int) 12 := by rw [show (((k + 1 : Nat)) : Int) = (k : Int) + 1 from rfl]; exact zml_s (s := s0) (d := 0) (k := (k : Int)) 12
      have z1 : zml s0 1 (((k + 1 : Nat)) : Int) 12 = zml s0 1 (k : Int) 12 + zma s0 1 (k : Int) 12 := by rw [show (((k + 1 : Nat)) : Int) = (k : Int) + 1 from rfl]; exact zml_s (s := s0) (d := 1) (k := (k : Int)) 12
      have y0 : zma s 0 (k : Int) 12 = zma s0 0 (k : Int) 12 := zma_eq (fun p f h9 => e p f (by omega)) 0 (k : Int)
      have y1 : zma s 1 (k : Int) 12 = zma s0 1 (k : Int) 12 := zma_eq (fun p f h9 => e p f (by omega)) 1 (k : Int)
      exact ih (k + 1) (by omega) (by omega) s1 v5 v6 v7 v8 V1 (fun p f h9 => (f1 p f h9).trans (e p f h9)) (by omega) (by omega)
set_option maxRecDepth 20000 in
set_option maxHeartbeats 4000000 in
theorem t_L_isSo (S : zSR R) (V : zV g U F T B ph s) {n : Int} {w : Int} (p0 : n = g 2) (p1 : w = g 6) (p2 : g 8 ≤ 125 + (X.length : Int)) (hQ0 : ∀ (X1 : zK) (R1 : Nat → Nat → Option Nat) (G1 : Nat → Nat → Int64) (s1 : zJ) (m1 : Nat) (m2 : Nat), zV g U F T B ph s1 → zSR R1 → (∀ p f : Nat, p < 125 → s1 p f = s p f) → (∀ p : Nat, p < 125 → R1 p = R p) → (∀ p : Nat, p < 125 → G1 p = G p) → g 8 ≤ 125 + (X1.length : Int) → X1 = X ++ [(100, 2)] → m1 ≤ nc + 1 → m2 ≤ ns + 2 → Q (.inl (some (.int (Int32.ofInt 1)))) (zN L X1 (zhi s1) R1 G1 m1 m2)) : zW zro 165 0 (zfst [.ref 6, .int (Int32.ofInt n), .int (Int32.ofInt w)] 9) [] (zN L X (zhi s) R G nc ns) Q := by
  show zW zro 165 0 [some (.ref 6), some (.int (Int32.ofInt n)), some (.int (Int32.ofInt w)), none, none, none, none, none, none] [] (zN L X (zhi s) R G nc ns) Q
  refine zW.run 1 (pc' := 1) (ls' := [some (.ref 6), some (.int (Int32.ofInt n)), some (.int (Int32.ofInt w)), none, none, none, none, none, none]) (st' := [.int (Int32.ofInt 2)]) (σ' := (zN L X (zhi s) R G nc ns)) (fun n => rfl) ?_
  refine zW.jnew3 S V (g8 := (g 8)) rfl (by omega) (fun P X2 s2 R2 G2 S2 V2 ha hb hc hd hk he hf hr hg2 => ?_)
  refine zW.run 3 (pc' := 7) (ls' := [some (.ref 6), some (.int (Int32.ofInt n)), some (.int (Int32.ofInt w)), some (.ref P), some (.int (Int32.ofInt ((0 : Nat) : Int))), none, none, none, none]) (st' := []) (σ' := (zN L X2 (zhi s2) R2 G2 (nc + 1) (ns + 2))) (fun n => rfl) ?_
  have hl : X2.length = X.length + 1 := by rw [he, List.length_append]; rfl
  have hgeo := zA_geo (zV_zA V)
  exact z_is_q (s0 := s2) S2 V2 p0 p1 hk ⟨by omega, by omega, by omega⟩ (fun s1 V1 e => hQ0 X2 R2 G2 s1 (nc + 1) (ns + 2) V1 S2 (fun p f h9 => (e p f h9).trans (hb p f (by omega))) (fun p h9 => hr p (by omega)) (fun p h9 => hg2 p (by omega)) (by omega) he (Nat.le_refl _) (Nat.le_refl _)) 146 0 (by decide) (by omega) s2 none none none none V2 (fun _ _ _ => rfl) (hc.trans (zml_0 V2 0).symm) (hd.trans (zml_0 V2 1).symm)
end ZIS
