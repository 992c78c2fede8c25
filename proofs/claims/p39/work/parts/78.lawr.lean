/-! what the law's own methods rest on -/
def zGood (σ : zS) : Prop := ∃ (L : Nat) (X : zK) (s : zJ) (R : Nat → Nat → Option Nat) (G : Nat → Nat → Int64) (nc ns : Nat) (g : Nat → Int) (U F T B ph : Int), σ = zN L X (zhi s) R G nc ns ∧ zSR R ∧ zV g U F T B ph s
/-- a row's length: sixteen cells at most are made for it -/
noncomputable def zro : Nat → Int32 → zS → Option (zO × zS) := fun b x σ => @ite (Option (zO × zS)) (zGood σ ∧ b = 6) (Classical.propDecidable _) (if x < 0 ∨ σ.2.1 8 10 ≤ x then some (.inr 43, zthr σ) else some (.inl (some (.int (σ.2.1 8 9))), (σ.1, σ.2.1, σ.2.2.1, σ.2.2.2.1, σ.2.2.2.2.1 + 16, σ.2.2.2.2.2 + 400))) none
section ZLW
variable {y pc r1 r2 r3 x : Nat} {tg : List Nat} {ls : zLs} {st rest : List Value} {Q : zO → zS → Prop} {L : Nat} {X : zK} {s : zJ} {R : Nat → Nat → Option Nat} {G : Nat → Nat → Int64} {nc ns : Nat} {g : Nat → Int} {U F T B ph : Int} {ro : Nat → Int32 → zS → Option (zO × zS)}
theorem zro_at (S : zSR R) (V : zV g U F T B ph s) {k : Int} (hr : -2147483648 ≤ k ∧ k < 2147483648) : zro 6 (Int32.ofInt k) (zN L X (zhi s) R G nc ns) = if k < 0 ∨ g 1 ≤ k then some (.inr 43, zN L X (zhi s) R G (nc + 1) (ns + 6)) else some (.inl (some (.int (Int32.ofInt (g 0)))), zN L X (zhi s) R G (nc + 16) (ns + 400)) := by
  have hg := zA_geo (zV_zA V)
  unfold zro
  rw [if_pos ⟨⟨L, X, s, R, G, nc, ns, g, U, F, T, B, ph, rfl, S, V⟩, rfl⟩]
  have e1 : (Int32.ofInt k < 0) = (k < 0) := zj_lt hr (b := 0) (by decide)
  have e2 : ((zN L X (zhi s) R G nc ns).2.1 8 10 ≤ Int32.ofInt k) = (g 1 ≤ k) := by
    show (Int32.ofInt (s 8 10) ≤ Int32.ofInt k) = _
    rw [hg.1.2.1]
    exact zj_le (by omega) hr
  have e3 : (zN L X (zhi s) R G nc ns).2.1 8 9 = Int32.ofInt (g 0) := by
    show Int32.ofInt (s 8 9) = _
    rw [hg.1.1]
  rw [e3]
  by_cases c : k < 0 ∨ g 1 ≤ k
  · rw [if_pos c, if_pos (by rw [e1, e2]; exact c)]
    rfl
  · rw [if_neg c, if_neg (by rw [e1, e2]; exact c)]
theorem zW.jrow (S : zSR R) (V : zV g U F T B ph s) {k : Int} (he : zlk (zmC (zP y)) pc = some (.invokevirtual x, r1, r2, 2000, tg)) (hlow : zlow rest = true) (hr : -2147483648 ≤ k ∧ k < 2147483648) (kt : 0 ≤ k → k < g 1 → zW zro y (pc + 6) ls (.int (Int32.ofInt (g 0)) :: rest) (zN L X (zhi s) R G (nc + 16) (ns + 400)) Q) (kf : (k < 0 ∨ g 1 ≤ k) → zKt zro y pc ls rest Q (.inr 43) (zN L X (zhi s) R G (nc + 1) (ns + 6))) : zW zro y pc ls (.int (Int32.ofInt k) :: .ref 6 :: rest) (zN L X (zhi s) R G nc ns) Q := by
  by_cases c : k < 0 ∨ g 1 ≤ k
  · obtain ⟨m, o, σ', h, hq⟩ := zback_kt (n := 0) (kf c)
    refine ⟨m + 1, o, σ', ?_, hq⟩
    rw [zx_at he]
    dsimp only [zst]
    rw [if_pos rfl, if_pos hlow, zro_at S V hr, if_pos c]
    exact h m (Nat.le_refl m)
  · refine zW.go he (fun rec => ?_) (kt (by omega) (by omega))
    dsimp only [zst]
    rw [if_pos rfl, if_pos hlow, zro_at S V hr, if_neg c]
theorem zK0_len : (zK0 L).length = 125 := rfl
theorem zV_far {P : Nat} {s2 : zJ} (V : zV g U F T B ph s) (h : ∀ p f, p ≠ P → s2 p f = s p f) (hP : 66 ≤ P) (hg : g 8 ≤ P) : zV g U F T B ph s2 := by
  obtain ⟨a1, a2, a3, a4, a5, a6, a7, a8, a9, a10, a11, a12, a13, a14, a15⟩ := V
  exact ⟨zA_fr (fun p f q => h p f (by omega)) a1, zD_fr (fun p f q => h p f (by omega)) a2, zE_fr (fun p f q => h p f (by omega)) a3, zL1_fr (fun p f q => h p f (by omega)) a4, zG1_fr (fun p f q => h p f (by omega)) a5, zG2_fr (fun p f q => h p f (by omega)) a6, zC1_fr (fun p f q => h p f (by omega)) a7, zC2_fr (fun p f q => h p f (by omega)) a8, zM1_fr (fun p f q => h p f (by omega)) a9, zM2_fr (fun p f q => h p f (by omega)) a10, zS2_fr (fun p f q => h p f (by omega)) a11, zP1_fr (fun p f q => h p f (by omega)) a12, zN1_fr (fun p f q => h p f (by omega)) a13, zZ1_fr (fun p f q => h p f (by omega)) a14, zX1_fr (fun p f q => h p f (by omega)) a15⟩
theorem zSR_far {P : Nat} {R2 : Nat → Nat → Option Nat} (S : zSR R) (e : ∀ p, p < 66 → R2 p = R p) : zSR R2 := by
  obtain ⟨b1, b2, b3, b4, b5, b6, b7, b8, b9, b10, b11, b12, b13, b14, b15⟩ := S
  refine ⟨?_, ?_, ?_, ?_, ?_, ?_, ?_, ?_, ?_, ?_, fun i hi => ?_, fun i hi => ?_, fun i hi => ?_, fun i hi => ?_, fun i hi => ?_⟩
  · rw [e 6 (by omega)]; exact b1
  · rw [e 7 (by omega)]; exact b2
  · rw [e 7 (by omega)]; exact b3
  · rw [e 7 (by omega)]; exact b4
  · rw [e 7 (by omega)]; exact b5
  · rw [e 7 (by omega)]; exact b6
  · rw [e 7 (by omega)]; exact b7
  · rw [e 7 (by omega)]; exact b8
  · rw [e 23 (by omega)]; exact b9
  · rw [e 23 (by omega)]; exact b10
  · rw [e 8 (by omega)]; exact b11 i hi
  · rw [e 18 (by omega)]; exact b12 i hi
  · rw [e 19 (by omega)]; exact b13 i hi
  · rw [e 20 (by omega)]; exact b14 i hi
  · rw [e (54 + 2 * i) (by omega)]; exact b15 i hi
theorem zW.jnew2 {g8 : Int} {ty : ArrayType} (S : zSR R) (V : zV g U F T B ph s) (he : zlk (zmC (zP y)) pc = some (.newarray ty, 100, r2, r3, tg)) (hg : g 8 ≤ 125 + (X.length : Int)) (k : ∀ (P : Nat) (X2 : zK) (s2 : zJ) (R2 : Nat → Nat → Option Nat) (G2 : Nat → Nat → Int64), zSR R2 → zV g U F T B ph s2 → P = 125 + X.length → (∀ p f, p ≠ P → s2 p f = s p f) → s2 P 0 = 0 → s2 P 1 = 0 → (zK0 L ++ X2)[P]? = some (100, 2) → X2.length = X.length + 1 → 66 ≤ P ∧ g 8 ≤ P → (∀ p, p ≠ P → R2 p = R p) → (∀ p, p ≠ P → G2 p = G p) → zW ro y (pc + 2) ls (.ref P :: rest) (zN L X2 (zhi s2) R2 G2 (nc + 1) (ns + 2)) Q) : zW ro y pc ls (.int (Int32.ofInt 2) :: rest) (zN L X (zhi s) R G nc ns) Q := by
  have hlen : (zK0 L ++ X).length = 125 + X.length := by rw [List.length_append, zK0_len]
  have hh : zupR (zhi s) (125 + X.length) (fun _ => 0) = zhi (zupR s (125 + X.length) (fun _ => 0)) := by
    funext a j
    show (if a = 125 + X.length then fun _ => (0 : Int32) else zhi s a) j = Int32.ofInt ((if a = 125 + X.length then fun _ => (0 : Int) else s a) j)
    by_cases c : a = 125 + X.length
    · rw [if_pos c, if_pos c]; rfl
    · rw [if_neg c, if_neg c]; rfl
  have hk2 : (zK0 L ++ (X ++ [(100, 2)]))[125 + X.length]? = some (100, 2) := by
    rw [← List.append_assoc, List.getElem?_append_right (by rw [hlen]; exact Nat.le_refl _), hlen, Nat.sub_self]
    rfl
  have hs : ∀ p f, p ≠ 125 + X.length → zupR s (125 + X.length) (fun _ => 0) p f = s p f := fun p f hp => by
    unfold zupR
    rw [if_neg hp]
  have hs0 : ∀ f, zupR s (125 + X.length) (fun _ => 0) (125 + X.length) f = 0 := fun f => by
    unfold zupR
    rw [if_pos rfl]
  refine zW.go he (fun rec => ?_) (k (125 + X.length) (X ++ [(100, 2)]) (zupR s (125 + X.length) (fun _ => 0)) (zupR R (125 + X.length) (fun _ => none)) (zupR G (125 + X.length) (fun _ => 0)) (zSR_far (P := 0) S (fun p hp => if_neg (by omega))) (zV_far V hs (by omega) (by omega)) rfl hs (hs0 0) (hs0 1) hk2 (by rw [List.length_append]; rfl) ⟨by omega, by omega⟩ (fun p hp => if_neg hp) (fun p hp => if_neg hp))
  show (if Int32.ofInt 2 < 0 then none else if (Int32.ofInt 2).toNatClampNeg ≤ 100000 then rec y (pc + 2) ls (.ref (zK0 L ++ X).length :: rest) (znw (zN L X (zhi s) R G nc ns) 100 (Int32.ofInt 2).toNatClampNeg) else none) = _
  rw [if_neg (by decide), if_pos (by decide)]
  unfold znw
  dsimp only
  rw [hlen, hh, List.append_assoc]
  rfl
end ZLW
/-- new ghosts for what the law's own arrays hold -/
theorem zreg {g : Nat → Int} {U F T B ph : Int} {s : zJ} (V : zV g U F T B ph s) (N : Int) (U2 F2 : Int) (hU : zmm s 0 12 + zmm s 1 12 ≤ U2) (hF : 0 ≤ F2 ∧ F2 ≤ s 7 13) : ∃ g2 : Nat → Int, (∀ i, i < 8 → g2 i = g i) ∧ g2 8 = N ∧ (∀ p, g2 (1000 + 2 * p) = s p 0 ∧ g2 (1001 + 2 * p) = s p 1) ∧ zV g2 U2 F2 T B ph s := by
  have key : ∀ g2 : Nat → Int, (∀ i, i < 8 → g2 i = g i) → (∀ p, g2 (1000 + 2 * p) = s p 0 ∧ g2 (1001 + 2 * p) = s p 1) → zV g2 U2 F2 T B ph s := by
    intro g2 h hp
    obtain ⟨a1, a2, a3, a4, a5, a6, a7, a8, a9, a10, a11, a12, a13, a14, a15⟩ := V
    refine ⟨?_, a2, ?_, ?_, ?_, a6, ?_, a8, ?_, a10, a11, a12, ?_, ?_, ?_⟩
    · unfold zA at *
      rw [h 0 (by omega), h 1 (by omega), h 2 (by omega), h 3 (by omega)]
      exact a1
    · unfold zE at *
      rw [h 3 (by omega)]
      exact a3
    · unfold zL1 at *
      rw [h 2 (by omega), h 6 (by omega)]
      omega
    · unfold zG1 at *
      rw [h 2 (by omega)]
      exact a5
    · unfold zC1 at *
      rw [h 2 (by omega)]
      exact a7
    · unfold zM1 at *
      rw [h 2 (by omega)]
      exact a9
    · unfold zN1 at *
      rw [h 4 (by omega), h 5 (by omega)]
      exact ⟨a13.1, a13.2.1, hU⟩
    · unfold zZ1 at *
      rw [h 7 (by omega)]
      exact a14
    · intro p _ _
      exact ⟨(hp p).1.symm, (hp p).2.symm⟩
  refine ⟨fun i => if i < 8 then g i else if i = 8 then N else s ((i - 1000) / 2) ((i - 1000) % 2), fun i hi => if_pos hi, rfl, fun p => ?_, key _ (fun i hi => if_pos hi) (fun p => ?_)⟩
  all_goals
    show (if 1000 + 2 * p < 8 then g (1000 + 2 * p) else if 1000 + 2 * p = 8 then N else s ((1000 + 2 * p - 1000) / 2) ((1000 + 2 * p - 1000) % 2)) = _ ∧ (if 1001 + 2 * p < 8 then g (1001 + 2 * p) else if 1001 + 2 * p = 8 then N else s ((1001 + 2 * p - 1000) / 2) ((1001 + 2 * p - 1000) % 2)) = _
    rw [if_neg (by omega), if_neg (by omega), if_neg (by omega), if_neg (by omega), show (1000 + 2 * p - 1000) / 2 = p by omega, show (1000 + 2 * p - 1000) % 2 = 0 by omega, show (1001 + 2 * p - 1000) / 2 = p by omega, show (1001 + 2 * p - 1000) % 2 = 1 by omega]
    exact ⟨rfl, rfl⟩
/-! sums over companies and guns -/
def zml (s : zJ) (d k : Int) (n : Nat) : Int := zsm (fun i => if 0 < s (42 + i) 2 ∧ s (42 + i) 0 = d ∧ s (42 + i) 1 < k then s (42 + i) 2 else 0) n
theorem zml_s {s : zJ} {d k : Int} : ∀ n : Nat, zml s d (k + 1) n = zml s d k n + zma s d k n
  | 0 => rfl
  | n + 1 => by
    have h := zml_s (s := s) (d := d) (k := k) n
    show zml s d (k + 1) n + (if 0 < s (42 + n) 2 ∧ s (42 + n) 0 = d ∧ s (42 + n) 1 < k + 1 then s (42 + n) 2 else 0) = zml s d k n + (if 0 < s (42 + n) 2 ∧ s (42 + n) 0 = d ∧ s (42 + n) 1 < k then s (42 + n) 2 else 0) + (zma s d k n + (if 0 < s (42 + n) 2 ∧ s (42 + n) 0 = d ∧ s (42 + n) 1 = k then s (42 + n) 2 else 0))
    rw [h]
    omega
theorem zsm_0 {f : Nat → Int} : ∀ n : Nat, (∀ j, j < n → f j = 0) → zsm f n = 0
  | 0, _ => rfl
  | n + 1, h => by
    show zsm f n + f n = 0
    rw [zsm_0 n (fun j hj => h j (by omega)), h n (by omega)]
    rfl
theorem zml_0 {g : Nat → Int} {U F T B ph : Int} {s : zJ} (V : zV g U F T B ph s) (d : Int) : zml s d 0 12 = 0 := zsm_0 12 (fun j hj => if_neg (by
  have h2 := zV_zC2 V j hj
  omega))
theorem zml_C {g : Nat → Int} {U F T B ph : Int} {s : zJ} (V : zV g U F T B ph s) (d : Int) : zml s d (g 2) 12 = zmm s d 12 := zsm_eq (fun j hj => by
  have h1 := zV_zC1 V j hj
  show (if 0 < s (42 + j) 2 ∧ s (42 + j) 0 = d ∧ s (42 + j) 1 < g 2 then s (42 + j) 2 else 0) = (if s (42 + j) 0 = d then s (42 + j) 2 else 0)
  omega)
theorem zma_eq {s s2 : zJ} (h : ∀ p f : Nat, p < 66 → s2 p f = s p f) (d k : Int) : zma s2 d k 12 = zma s d k 12 := zsm_eq (fun j hj => by rw [h (42 + j) 0 (by omega), h (42 + j) 1 (by omega), h (42 + j) 2 (by omega)])
theorem zmm_eq {s s2 : zJ} (h : ∀ p f : Nat, p < 66 → s2 p f = s p f) (d : Int) : zmm s2 d 12 = zmm s d 12 := zsm_eq (fun j hj => by rw [h (42 + j) 0 (by omega), h (42 + j) 2 (by omega)])
def zcp (s : zJ) (n : Nat) : Int := zsm (fun i => if 0 < s (42 + i) 2 then 1 else 0) n
theorem zcp_s {s : zJ} {i : Nat} : zcp s (i + 1) = zcp s i + (if 0 < s (42 + i) 2 then 1 else 0) := rfl
theorem zcp_c {g : Nat → Int} {U F T B ph : Int} {s : zJ} (V : zV g U F T B ph s) : zco s 0 12 + zco s 1 12 = zcp s 8 := by
  have h1 : ∀ n : Nat, n ≤ 12 → zco s 0 n + zco s 1 n = zcp s n := by
    intro n
    induction n with
    | zero => intro _; rfl
    | succ n ih =>
      intro hn
      have q := ih (by omega)
      have q2 := zV_zC2 V n (by omega)
      have q1 := (zV_zC1 V n (by omega)).1
      rw [zco_s, zco_s, zcp_s]
      omega
  have h2 : ∀ n : Nat, n ≤ 4 → zcp s (8 + n) = zcp s 8 := by
    intro n
    induction n with
    | zero => intro _; rfl
    | succ n ih =>
      intro hn
      have q := ih (by omega)
      have q2 := zV_zC2 V (8 + n) (by omega)
      show zcp s (8 + n + 1) = _
      rw [zcp_s]
      omega
  rw [h1 12 (by omega)]
  exact h2 4 (by omega)
def zrp (s : zJ) (n : Nat) : Int := zsm (fun i => if s (26 + i) 5 = 0 then 1 else 0) n
theorem zrp_s {s : zJ} {i : Nat} : zrp s (i + 1) = zrp s i + (if s (26 + i) 5 = 0 then 1 else 0) := rfl
theorem zrp_c {g : Nat → Int} {U F T B ph : Int} {s : zJ} (V : zV g U F T B ph s) : zrg s 0 16 + zrg s 1 16 = zrp s 6 := by
  have h1 : ∀ n : Nat, n ≤ 6 → zrg s 0 n + zrg s 1 n = zrp s n := by
    intro n
    induction n with
    | zero => intro _; rfl
    | succ n ih =>
      intro hn
      have q := ih (by omega)
      have q2 := zV_zG2 V n (by omega)
      rw [zrg_s, zrg_s, zrp_s]
      omega
  have h2 : ∀ n : Nat, n ≤ 10 → zrg s 0 (6 + n) + zrg s 1 (6 + n) = zrg s 0 6 + zrg s 1 6 := by
    intro n
    induction n with
    | zero => intro _; rfl
    | succ n ih =>
      intro hn
      have q := ih (by omega)
      have q2 := zV_zG2 V (6 + n) (by omega)
      show zrg s 0 (6 + n + 1) + zrg s 1 (6 + n + 1) = _
      rw [zrg_s, zrg_s]
      omega
  rw [← h1 6 (by omega)]
  exact h2 10 (by omega)
/-! a number below another -/
theorem zbl_nn (v : Int32) : 0 ≤ (v &&& Int32.ofInt 2147483647).toInt := by
  have h : (v &&& Int32.ofInt 2147483647).toBitVec.msb = false := by
    rw [Int32.toBitVec_and, BitVec.msb_and]
    have : (Int32.ofInt 2147483647).toBitVec.msb = false := by decide
    rw [this, Bool.and_false]
  show 0 ≤ (v &&& Int32.ofInt 2147483647).toBitVec.toInt
  rw [BitVec.toInt_eq_msb_cond, h]
  simp
theorem zbl {v : Int32} {n : Int} (h : 0 < n ∧ n ≤ 1000) : ∃ k : Nat, (k : Int) < n ∧ (v &&& Int32.ofInt 2147483647) - (v &&& Int32.ofInt 2147483647) / Int32.ofInt n * Int32.ofInt n = Int32.ofInt (k : Int) := by
  obtain ⟨u, hu, e⟩ := zj_w (v &&& Int32.ofInt 2147483647)
  have h0 := zbl_nn v
  rw [e, zj_ti hu] at h0
  rw [e]
  refine ⟨(u % n).toNat, ?_, ?_⟩
  · have h1 := Int.emod_nonneg u (show n ≠ 0 by omega)
    have h2 := Int.emod_lt_of_pos u h.1
    omega
  · have h1 := Int.emod_nonneg u (show n ≠ 0 by omega)
    have h7 : Int32.ofInt u / Int32.ofInt n = Int32.ofInt (u / n) := by
      rw [← Int.tdiv_eq_ediv_of_nonneg h0]
      exact (zj_td (by omega) (by omega)).symm
    rw [h7, ← Int32.ofInt_mul, ← Int32.ofInt_sub, show (((u % n).toNat : Nat) : Int) = u % n by omega]
    have h6 : u - u / n * n = u % n := by
      rw [Int.emod_def, Int.mul_comm]
    rw [h6]
section ZBE
variable {ro : Nat → Int32 → zS → Option (zO × zS)} {L : Nat} {X : zK} {s : zJ} {R : Nat → Nat → Option Nat} {G : Nat → Nat → Int64} {nc ns : Nat} {Q : zO → zS → Prop}
theorem t_L_below (_ : zSR R) {v : Int32} {n : Int} (p0 : 0 < n ∧ n ≤ 1000) (hQ0 : ∀ k : Nat, (k : Int) < n → Q (.inl (some (.int (Int32.ofInt (k : Int))))) (zN L X (zhi s) R G nc ns)) : zW ro 160 0 (zfst [.int v, .int (Int32.ofInt n)] 2) [] (zN L X (zhi s) R G nc ns) Q := by
  obtain ⟨k, hk, e⟩ := zbl (v := v) p0
  refine zW.run 4 (pc' := 5) (ls' := [some (.int v), some (.int (Int32.ofInt n))]) (st' := [.int (Int32.ofInt n), .int (v &&& Int32.ofInt 2147483647)]) (σ' := zN L X (zhi s) R G nc ns) (fun n => rfl) ?_
  refine zW.irem rfl (zj_nz (by omega) (by omega)) ?_
  rw [e]
  exact zW.jret rfl rfl (hQ0 k hk)
theorem t_L_cell (_ : zSR R) {k : Nat} (p0 : k ≤ 20 ∧ L ≤ 260) (hQ0 : ∀ v : Int32, Q (.inl (some (.int v))) (zN L X (zhi s) R G nc ns)) : zW ro 161 0 (zfst [.ref 5, .int (Int32.ofInt (k : Int))] 2) [] (zN L X (zhi s) R G nc ns) Q := by
  refine zW.run 2 (pc' := 2) (ls' := [some (.ref 5), some (.int (Int32.ofInt (k : Int)))]) (st' := [.ref 5, .int (Int32.ofInt (k : Int))]) (σ' := zN L X (zhi s) R G nc ns) (fun n => rfl) ?_
  refine zW.alen (n := L) (k := 200) rfl rfl (by decide) ?_
  have eL : Int32.ofNat L = Int32.ofInt (L : Int) := by
    apply Int32.toInt_inj.mp
    rw [zj_ti (by omega)]
    exact Int32.toInt_ofNat_of_lt (by omega)
  rw [eL]
  refine zW.jcmp_ge rfl (by omega) (fun c1 => ?_) (fun c1 => ?_)
  · refine zW.run 5 (pc' := 18) (ls' := [some (.ref 5), some (.int (Int32.ofInt (k : Int)))]) (st' := [.int (Int32.ofInt 790386105 * (Int32.ofInt (k : Int) + Int32.ofInt 3))]) (σ' := zN L X (zhi s) R G nc ns) (fun n => rfl) ?_
    exact zW.iret rfl rfl rfl (hQ0 _)
  · refine zW.run 2 (pc' := 8) (ls' := [some (.ref 5), some (.int (Int32.ofInt (k : Int)))]) (st' := [.int (Int32.ofInt (k : Int)), .ref 5]) (σ' := zN L X (zhi s) R G nc ns) (fun n => rfl) ?_
    refine zW.jals (n := L) (v := s 5 k) rfl rfl (by omega) (by omega) rfl ?_
    refine zW.run 1 (pc' := 18) (ls' := [some (.ref 5), some (.int (Int32.ofInt (k : Int)))]) (st' := [.int (Int32.ofInt (s 5 k))]) (σ' := zN L X (zhi s) R G nc ns) (fun n => rfl) ?_
    exact zW.iret rfl rfl rfl (hQ0 _)
end ZBE
