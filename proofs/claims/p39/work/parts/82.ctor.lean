/-! the constructors: cells come one behind another (printed by program) -/
/-- what a new siege's cell o holds in its field f -/
def zIv (o f : Nat) : Int := if o = 0 then (if f = 12 then -1 else 0) else if o = 1 then (if f = 12 ∨ f = 13 then -1 else 0) else if o = 14 ∨ o = 15 then (if f = 3 then 60 else 0) else if o = 16 then (if f = 4 then 10 else 0) else if 19 ≤ o ∧ o < 35 then (if f = 0 ∨ f = 1 ∨ f = 6 then -1 else 0) else if 35 ≤ o ∧ o < 47 then (if f = 0 ∨ f = 1 ∨ f = 5 then -1 else 0) else if 47 ≤ o ∧ o % 2 = 1 then (if f = 1 then -1 else 0) else 0
abbrev zCn (K0 : zK) (m : Nat) (s : zJ) (R : Nat → Nat → Option Nat) (G : Nat → Nat → Int64) (nc ns : Nat) : zS := (K0 ++ zS1.take m, zhi s, R, G, nc, ns)
theorem zhi_R (s : zJ) (p : Nat) : zupR (zhi s) p (fun _ => 0) = zhi (zupR s p (fun _ => 0)) := by
  funext a j
  show (if a = p then fun _ => (0 : Int32) else zhi s a) j = Int32.ofInt ((if a = p then fun _ => (0 : Int) else s a) j)
  by_cases c : a = p
  · rw [if_pos c, if_pos c]; rfl
  · rw [if_neg c, if_neg c]; rfl
section ZCN
variable {ro : Nat → Int32 → zS → Option (zO × zS)} {y pc r1 r2 r3 x : Nat} {tg : List Nat} {ls : zLs} {st rest : List Value} {Q : zO → zS → Prop} {K0 : zK} {p m : Nat} {s : zJ} {R : Nat → Nat → Option Nat} {G : Nat → Nat → Int64} {nc ns : Nat}
theorem zkt (hp : K0.length = p) {o m : Nat} {e : Nat × Nat} (ho : o < m) (he : zS1[o]? = some e) : (K0 ++ zS1.take m)[p + o]? = some e := by
  rw [List.getElem?_append_right (by omega), hp, Nat.add_sub_cancel_left, List.getElem?_take_of_lt ho]
  exact he
theorem zkl_ (hp : K0.length = p) (hm : m ≤ 59) : (K0 ++ zS1.take m).length = p + m := by
  have h : zS1.length = 59 := rfl
  rw [List.length_append, List.length_take, hp, h]
  omega
theorem zks {e : Nat × Nat} (he : zS1[m]? = some e) : (K0 ++ zS1.take m) ++ [e] = K0 ++ zS1.take (m + 1) := by
  rw [List.append_assoc, List.take_succ, he]
  rfl
theorem zkm {e : Nat × Nat} (he : zS1[m]? = some e) : m ≤ 59 := by
  have h := (List.getElem?_eq_some_iff.mp he).1
  have h2 : zS1.length = 59 := rfl
  omega
/-- an object -/
theorem zW.cnew {k n : Nat} (hp : K0.length = p) (he : zlk (zmC (zP y)) pc = some (.new x, k, r2, 0, tg)) (hm : zS1[m]? = some (k, n)) (hz : (zFt k).length = n) (q : ∀ (s2 : zJ) (R2 : Nat → Nat → Option Nat) (G2 : Nat → Nat → Int64), (∀ a f, a ≠ p + m → s2 a f = s a f) → (∀ f, s2 (p + m) f = 0) → (∀ a, a ≠ p + m → R2 a = R a) → zW ro y (pc + 3) ls (.ref (p + m) :: st) (zCn K0 (m + 1) s2 R2 G2 (nc + 1) (ns + n)) Q) : zW ro y pc ls st (zCn K0 m s R G nc ns) Q := by
  refine zW.go he (fun rec => ?_) (q (zupR s (p + m) (fun _ => 0)) (zupR R (p + m) (fun _ => none)) (zupR G (p + m) (fun _ => 0)) (fun a f ha => by unfold zupR; rw [if_neg ha]) (fun f => by unfold zupR; rw [if_pos rfl]) (fun a ha => if_neg ha))
  dsimp only [zst]
  rw [if_pos rfl]
  unfold znw
  dsimp only [zCn]
  rw [zkl_ hp (zkm hm), hz, zks hm, zhi_R]
/-- rows of numbers, or of objects -/
theorem zW.carr {N : Nat} {ty : ArrayType} (hp : K0.length = p) (he : zlk (zmC (zP y)) pc = some (.newarray ty, 100, r2, r3, tg)) (hm : zS1[m]? = some (100, N)) (hN : N ≤ 1000) (q : ∀ (s2 : zJ) (R2 : Nat → Nat → Option Nat) (G2 : Nat → Nat → Int64), (∀ a f, a ≠ p + m → s2 a f = s a f) → (∀ f, s2 (p + m) f = 0) → (∀ a, a ≠ p + m → R2 a = R a) → zW ro y (pc + 2) ls (.ref (p + m) :: st) (zCn K0 (m + 1) s2 R2 G2 (nc + 1) (ns + N)) Q) : zW ro y pc ls (.int (Int32.ofInt (N : Int)) :: st) (zCn K0 m s R G nc ns) Q := by
  have e0 : ¬ Int32.ofInt (N : Int) < 0 := fun h => by
    have h2 := (zj_lt (a := (N : Int)) (b := 0) (by omega) (by omega)).mp h
    omega
  have e1 : (Int32.ofInt (N : Int)).toNatClampNeg = N := zj_cl (by omega)
  refine zW.go he (fun rec => ?_) (q (zupR s (p + m) (fun _ => 0)) (zupR R (p + m) (fun _ => none)) (zupR G (p + m) (fun _ => 0)) (fun a f ha => by unfold zupR; rw [if_neg ha]) (fun f => by unfold zupR; rw [if_pos rfl]) (fun a ha => if_neg ha))
  show (if Int32.ofInt (N : Int) < 0 then none else if (Int32.ofInt (N : Int)).toNatClampNeg ≤ 100000 then rec y (pc + 2) ls (.ref (K0 ++ zS1.take m).length :: st) (znw (zCn K0 m s R G nc ns) 100 (Int32.ofInt (N : Int)).toNatClampNeg) else none) = _
  rw [if_neg e0, e1, if_pos (by omega)]
  unfold znw
  dsimp only [zCn]
  rw [zkl_ hp (zkm hm), zks hm, zhi_R]
theorem zW.cars {N k : Nat} (hp : K0.length = p) (he : zlk (zmC (zP y)) pc = some (.anewarray x, k, r2, r3, tg)) (hm : zS1[m]? = some (k, N)) (hN : N ≤ 1000) (q : ∀ (s2 : zJ) (R2 : Nat → Nat → Option Nat) (G2 : Nat → Nat → Int64), (∀ a f, a ≠ p + m → s2 a f = s a f) → (∀ f, s2 (p + m) f = 0) → (∀ a, a ≠ p + m → R2 a = R a) → zW ro y (pc + 3) ls (.ref (p + m) :: st) (zCn K0 (m + 1) s2 R2 G2 (nc + 1) (ns + N)) Q) : zW ro y pc ls (.int (Int32.ofInt (N : Int)) :: st) (zCn K0 m s R G nc ns) Q := by
  have e0 : ¬ Int32.ofInt (N : Int) < 0 := fun h => by
    have h2 := (zj_lt (a := (N : Int)) (b := 0) (by omega) (by omega)).mp h
    omega
  have e1 : (Int32.ofInt (N : Int)).toNatClampNeg = N := zj_cl (by omega)
  refine zW.go he (fun rec => ?_) (q (zupR s (p + m) (fun _ => 0)) (zupR R (p + m) (fun _ => none)) (zupR G (p + m) (fun _ => 0)) (fun a f ha => by unfold zupR; rw [if_neg ha]) (fun f => by unfold zupR; rw [if_pos rfl]) (fun a ha => if_neg ha))
  show (if Int32.ofInt (N : Int) < 0 then none else if (Int32.ofInt (N : Int)).toNatClampNeg ≤ 100000 then rec y (pc + 3) ls (.ref (K0 ++ zS1.take m).length :: st) (znw (zCn K0 m s R G nc ns) k (Int32.ofInt (N : Int)).toNatClampNeg) else none) = _
  rw [if_neg e0, e1, if_pos (by omega)]
  unfold znw
  dsimp only [zCn]
  rw [zkl_ hp (zkm hm), zks hm, zhi_R]
theorem zW.cput {a k n j : Nat} {v : Int} (he : zlk (zmC (zP y)) pc = some (.putfield x, k, j, r3, tg)) (hk : (K0 ++ zS1.take m)[a]? = some (k, n)) (hz : (zFt k).getD j .int = .int) (q : zW ro y (pc + 3) ls st (zCn K0 m (zup s a j v) R G nc ns) Q) : zW ro y pc ls (.int (Int32.ofInt v) :: .ref a :: st) (zCn K0 m s R G nc ns) Q := by
  refine zW.putf (σ1 := zCn K0 m (zup s a j v) R G nc ns) he hk (by rw [hz]; rfl) (by rw [hz]; rfl) ?_ q
  dsimp only [zCn]
  rw [← zhi_up]
  rfl
theorem zW.cputr {a b k n j : Nat} (he : zlk (zmC (zP y)) pc = some (.putfield x, k, j, r3, tg)) (hk : (K0 ++ zS1.take m)[a]? = some (k, n)) (hn : narrow ((zFt k).getD j .int) (.ref b) = .ref b) (hf : fits ((zFt k).getD j .int) (.ref b) = true) (q : zW ro y (pc + 3) ls st (zCn K0 m s (zup R a j (some b)) G nc ns) Q) : zW ro y pc ls (.ref b :: .ref a :: st) (zCn K0 m s R G nc ns) Q :=
  zW.putf (σ1 := zCn K0 m s (zup R a j (some b)) G nc ns) he hk hn hf rfl q
theorem zup_n1 {s : zJ} {p f : Nat} {v : Int} {a k : Nat} (h : a ≠ p) : zup s p f v a k = s a k := if_neg (fun q => h q.1)
theorem zup_e1 {s : zJ} {p f : Nat} {v : Int} {k : Nat} : zup s p f v p k = if k = f then v else s p k := by
  unfold zup
  by_cases h : k = f
  · rw [if_pos ⟨rfl, h⟩, if_pos h]
  · rw [if_neg (fun q => h q.2), if_neg h]
theorem zupO_ne {R : Nat → Nat → Option Nat} {p f : Nat} {v : Option Nat} {a : Nat} (h : a ≠ p) : zup R p f v a = R a := by
  funext k
  exact if_neg (fun q => h q.1)
theorem zupO_eq {R : Nat → Nat → Option Nat} {p f : Nat} {v : Option Nat} {k : Nat} : zup R p f v p k = if k = f then v else R p k := by
  unfold zup
  by_cases h : k = f
  · rw [if_pos ⟨rfl, h⟩, if_pos h]
  · rw [if_neg (fun q => h q.2), if_neg h]
theorem c_Gun (hp : K0.length = p) (hm : zS1[m]? = some (3, 7)) (hQ : Q (.inl none) (zCn K0 (m + 1) (zup (zup (zup (zup s (p + m) 0 (-1)) (p + m) 1 (-1)) (p + m) 5 0) (p + m) 6 (-1)) R G nc ns)) : zW ro 82 0 (zfst [.ref (p + m)] 1) [] (zCn K0 (m + 1) s R G nc ns) Q := by
  have hk := zkt hp (Nat.lt_succ_self m) hm
  show zW ro 82 0 [some (.ref (p + m))] [] (zCn K0 (m + 1) s R G nc ns) Q
  refine zW.run 4 (pc' := 6) (ls' := [some (.ref (p + m))]) (st' := [.int (Int32.ofInt (-1)), .ref (p + m)]) (σ' := (zCn K0 (m + 1) s R G nc ns)) (fun n => rfl) ?_
  refine zW.cput rfl hk rfl ?_
  refine zW.run 2 (pc' := 11) (ls' := [some (.ref (p + m))]) (st' := [.int (Int32.ofInt (-1)), .ref (p + m)]) (σ' := (zCn K0 (m + 1) (zup s (p + m) 0 (-1)) R G nc ns)) (fun n => rfl) ?_
  refine zW.cput rfl hk rfl ?_
  refine zW.run 2 (pc' := 16) (ls' := [some (.ref (p + m))]) (st' := [.int (Int32.ofInt 0), .ref (p + m)]) (σ' := (zCn K0 (m + 1) (zup (zup s (p + m) 0 (-1)) (p + m) 1 (-1)) R G nc ns)) (fun n => rfl) ?_
  refine zW.cput rfl hk rfl ?_
  refine zW.run 2 (pc' := 21) (ls' := [some (.ref (p + m))]) (st' := [.int (Int32.ofInt (-1)), .ref (p + m)]) (σ' := (zCn K0 (m + 1) (zup (zup (zup s (p + m) 0 (-1)) (p + m) 1 (-1)) (p + m) 5 0) R G nc ns)) (fun n => rfl) ?_
  refine zW.cput rfl hk rfl ?_
  exact zW.vret rfl hQ
theorem c_Company (hp : K0.length = p) (hm : zS1[m]? = some (4, 6)) (hQ : Q (.inl none) (zCn K0 (m + 1) (zup (zup (zup (zup s (p + m) 0 (-1)) (p + m) 1 (-1)) (p + m) 4 0) (p + m) 5 (-1)) R G nc ns)) : zW ro 32 0 (zfst [.ref (p + m)] 1) [] (zCn K0 (m + 1) s R G nc ns) Q := by
  have hk := zkt hp (Nat.lt_succ_self m) hm
  show zW ro 32 0 [some (.ref (p + m))] [] (zCn K0 (m + 1) s R G nc ns) Q
  refine zW.run 4 (pc' := 6) (ls' := [some (.ref (p + m))]) (st' := [.int (Int32.ofInt (-1)), .ref (p + m)]) (σ' := (zCn K0 (m + 1) s R G nc ns)) (fun n => rfl) ?_
  refine zW.cput rfl hk rfl ?_
  refine zW.run 2 (pc' := 11) (ls' := [some (.ref (p + m))]) (st' := [.int (Int32.ofInt (-1)), .ref (p + m)]) (σ' := (zCn K0 (m + 1) (zup s (p + m) 0 (-1)) R G nc ns)) (fun n => rfl) ?_
  refine zW.cput rfl hk rfl ?_
  refine zW.run 2 (pc' := 16) (ls' := [some (.ref (p + m))]) (st' := [.int (Int32.ofInt 0), .ref (p + m)]) (σ' := (zCn K0 (m + 1) (zup (zup s (p + m) 0 (-1)) (p + m) 1 (-1)) R G nc ns)) (fun n => rfl) ?_
  refine zW.cput rfl hk rfl ?_
  refine zW.run 2 (pc' := 21) (ls' := [some (.ref (p + m))]) (st' := [.int (Int32.ofInt (-1)), .ref (p + m)]) (σ' := (zCn K0 (m + 1) (zup (zup (zup s (p + m) 0 (-1)) (p + m) 1 (-1)) (p + m) 4 0) R G nc ns)) (fun n => rfl) ?_
  refine zW.cput rfl hk rfl ?_
  exact zW.vret rfl hQ
theorem c_Side (hp : K0.length = p) (hm : zS1[m]? = some (6, 11)) (hQ : Q (.inl none) (zCn K0 (m + 1) (zup s (p + m) 3 60) R G nc ns)) : zW ro 121 0 (zfst [.ref (p + m)] 1) [] (zCn K0 (m + 1) s R G nc ns) Q := by
  have hk := zkt hp (Nat.lt_succ_self m) hm
  show zW ro 121 0 [some (.ref (p + m))] [] (zCn K0 (m + 1) s R G nc ns) Q
  refine zW.run 4 (pc' := 7) (ls' := [some (.ref (p + m))]) (st' := [.int (Int32.ofInt 60), .ref (p + m)]) (σ' := (zCn K0 (m + 1) s R G nc ns)) (fun n => rfl) ?_
  refine zW.cput rfl hk rfl ?_
  exact zW.vret rfl hQ
theorem c_Mine (hp : K0.length = p) (hm : zS1[m]? = some (5, 7)) (hm2 : zS1[m + 1]? = some (100, 6)) (hQ : ∀ (s2 : zJ) (R2 : Nat → Nat → Option Nat) (G2 : Nat → Nat → Int64), (∀ a f, a ≠ p + m → a ≠ p + (m + 1) → s2 a f = s a f) → (∀ f, s2 (p + m) f = if f = 1 then -1 else if f = 6 then 0 else s (p + m) f) → (∀ f, s2 (p + (m + 1)) f = 0) → (∀ a, a ≠ p + m → a ≠ p + (m + 1) → R2 a = R a) → R2 (p + m) 0 = some (p + (m + 1)) → Q (.inl none) (zCn K0 (m + 2) s2 R2 G2 (nc + 1) (ns + 6))) : zW ro 101 0 (zfst [.ref (p + m)] 1) [] (zCn K0 (m + 1) s R G nc ns) Q := by
  have hk := zkt hp (show m < m + 2 by omega) hm
  show zW ro 101 0 [some (.ref (p + m))] [] (zCn K0 (m + 1) s R G nc ns) Q
  refine zW.run 4 (pc' := 7) (ls' := [some (.ref (p + m))]) (st' := [.int (Int32.ofInt ((6 : Nat) : Int)), .ref (p + m)]) (σ' := zCn K0 (m + 1) s R G nc ns) (fun n => rfl) ?_
  refine zW.carr hp rfl hm2 (by decide) (fun s2 R2 G2 a2 b2 c2 => ?_)
  refine zW.cputr rfl hk rfl rfl ?_
  refine zW.run 2 (pc' := 14) (ls' := [some (.ref (p + m))]) (st' := [.int (Int32.ofInt (-1)), .ref (p + m)]) (σ' := zCn K0 (m + 2) s2 (zup R2 (p + m) 0 (some (p + (m + 1)))) G2 (nc + 1) (ns + 6)) (fun n => rfl) ?_
  refine zW.cput rfl hk rfl ?_
  refine zW.run 2 (pc' := 19) (ls' := [some (.ref (p + m))]) (st' := [.int (Int32.ofInt 0), .ref (p + m)]) (σ' := zCn K0 (m + 2) (zup s2 (p + m) 1 (-1)) (zup R2 (p + m) 0 (some (p + (m + 1)))) G2 (nc + 1) (ns + 6)) (fun n => rfl) ?_
  refine zW.cput rfl hk rfl ?_
  refine zW.vret rfl (hQ _ _ _ (fun a f h1 h2 => ?_) (fun f => ?_) (fun f => ?_) (fun a h1 h2 => ?_) ?_)
  · rw [zup_n1 h1, zup_n1 h1]; exact a2 a f h2
  · rw [zup_e1, zup_e1, a2 _ f (by omega)]; omega
  · rw [zup_n1 (by omega), zup_n1 (by omega)]; exact b2 f
  · rw [zupO_ne h1]; exact c2 a h2
  · rw [zupO_eq]; rfl
theorem c_Post (hp : K0.length = p) (hm : zS1[m]? = some (7, 7)) (hm2 : zS1[m + 1]? = some (100, 6)) (hm3 : zS1[m + 2]? = some (100, 6)) (hQ : ∀ (s2 : zJ) (R2 : Nat → Nat → Option Nat) (G2 : Nat → Nat → Int64), (∀ a f, a ≠ p + m → a ≠ p + (m + 1) → a ≠ p + (m + 2) → s2 a f = s a f) → (∀ f, s2 (p + m) f = if f = 4 then 10 else s (p + m) f) → (∀ f, s2 (p + (m + 1)) f = 0) → (∀ f, s2 (p + (m + 2)) f = 0) → (∀ a, a ≠ p + m → a ≠ p + (m + 1) → a ≠ p + (m + 2) → R2 a = R a) → R2 (p + m) 0 = some (p + (m + 1)) → R2 (p + m) 1 = some (p + (m + 2)) → Q (.inl none) (zCn K0 (m + 3) s2 R2 G2 (nc + 1 + 1) (ns + 6 + 6))) : zW ro 117 0 (zfst [.ref (p + m)] 1) [] (zCn K0 (m + 1) s R G nc ns) Q := by
  have hk := zkt hp (show m < m + 2 by omega) hm
  have hk3 := zkt hp (show m < m + 3 by omega) hm
  show zW ro 117 0 [some (.ref (p + m))] [] (zCn K0 (m + 1) s R G nc ns) Q
  refine zW.run 4 (pc' := 7) (ls' := [some (.ref (p + m))]) (st' := [.int (Int32.ofInt ((6 : Nat) : Int)), .ref (p + m)]) (σ' := zCn K0 (m + 1) s R G nc ns) (fun n => rfl) ?_
  refine zW.carr hp rfl hm2 (by decide) (fun s2 R2 G2 a2 b2 c2 => ?_)
  refine zW.cputr rfl hk rfl rfl ?_
  refine zW.run 2 (pc' := 15) (ls' := [some (.ref (p + m))]) (st' := [.int (Int32.ofInt ((6 : Nat) : Int)), .ref (p + m)]) (σ' := zCn K0 (m + 2) s2 (zup R2 (p + m) 0 (some (p + (m + 1)))) G2 (nc + 1) (ns + 6)) (fun n => rfl) ?_
  refine zW.carr hp rfl hm3 (by decide) (fun s3 R3 G3 a3 b3 c3 => ?_)
  refine zW.cputr rfl hk3 rfl rfl ?_
  refine zW.run 2 (pc' := 23) (ls' := [some (.ref (p + m))]) (st' := [.int (Int32.ofInt 10), .ref (p + m)]) (σ' := zCn K0 (m + 3) s3 (zup R3 (p + m) 1 (some (p + (m + 2)))) G3 (nc + 1 + 1) (ns + 6 + 6)) (fun n => rfl) ?_
  refine zW.cput rfl hk3 rfl ?_
  refine zW.vret rfl (hQ _ _ _ (fun a f h1 h2 h3 => ?_) (fun f => ?_) (fun f => ?_) (fun f => ?_) (fun a h1 h2 h3 => ?_) ?_ ?_)
  · rw [zup_n1 h1, a3 a f h3]; exact a2 a f h2
  · rw [zup_e1, a3 _ f (by omega), a2 _ f (by omega)]
  · rw [zup_n1 (by omega), a3 _ f (by omega)]; exact b2 f
  · rw [zup_n1 (by omega)]; exact b3 f
  · rw [zupO_ne h1, c3 a h3, zupO_ne h1]; exact c2 a h2
  · rw [zupO_eq, if_neg (by decide), c3 _ (by omega), zupO_eq]; rfl
  · rw [zupO_eq]; rfl
theorem c_Ground (hp : K0.length = p) (hQ : ∀ (s2 : zJ) (R2 : Nat → Nat → Option Nat) (G2 : Nat → Nat → Int64), (∀ a f, a ≤ p → s2 a f = s a f) → (∀ f, s2 (p + 1) f = if f = 12 ∨ f = 13 then -1 else s (p + 1) f) → (∀ j f : Nat, j < 9 → s2 (p + (2 + j)) f = 0) → (∀ a, a ≤ p → R2 a = R a) → (∀ f, f < 9 → R2 (p + 1) f = some (p + (2 + f))) → Q (.inl none) (zCn K0 11 s2 R2 G2 (nc + 9) (ns + 1296))) : zW ro 56 0 (zfst [.ref (p + 1)] 1) [] (zCn K0 2 s R G nc ns) Q := by
  show zW ro 56 0 [some (.ref (p + 1))] [] (zCn K0 2 s R G nc ns) Q
  have A0 : ∀ a f, a ≤ p + 1 → s a f = s a f := fun a f _ => rfl
  have B0 : ∀ j f : Nat, j < 0 → s (p + (2 + j)) f = 0 := fun j f h => absurd h (Nat.not_lt_zero j)
  have C0 : ∀ a, a ≤ p → R a = R a := fun a _ => rfl
  have D0 : ∀ f, f < 0 → R (p + 1) f = some (p + (2 + f)) := fun f h => absurd h (Nat.not_lt_zero f)
  refine zW.run 4 (pc' := 8) (ls' := [some (.ref (p + 1))]) (st' := [.int (Int32.ofInt ((144 : Nat) : Int)), .ref (p + 1)]) (σ' := (zCn K0 2 s R G (nc) (ns))) (fun n => rfl) ?_
  refine zW.carr (m := 2) hp rfl rfl (by decide) (fun s1 R1 G1 a1 b1 c1 => ?_)
  refine zW.cputr (m := 3) rfl (zkt hp (o := 1) (by decide) rfl) rfl rfl ?_
  have A1 : ∀ a f, a ≤ p + 1 → s1 a f = s a f := fun a f h => (a1 a f (by omega)).trans (A0 a f h)
  have B1 : ∀ j f : Nat, j < 1 → s1 (p + (2 + j)) f = 0 := fun j f h => by
    by_cases e : j = 0
    · rw [e]; exact b1 f
    · rw [a1 _ f (by omega)]; exact B0 j f (by omega)
  have C1 : ∀ a, a ≤ p → (zup R1 (p + 1) 0 (some (p + 2))) a = R a := fun a h => by
    rw [zupO_ne (by omega), c1 a (by omega)]
  have D1 : ∀ f, f < 1 → (zup R1 (p + 1) 0 (some (p + 2))) (p + 1) f = some (p + (2 + f)) := fun f h => by
    rw [zupO_eq]
    by_cases e : f = 0
    · rw [if_pos e, e]
    · rw [if_neg e, c1 (p + 1) (by omega)]; exact D0 f (by omega)
  refine zW.run 2 (pc' := 17) (ls' := [some (.ref (p + 1))]) (st' := [.int (Int32.ofInt ((144 : Nat) : Int)), .ref (p + 1)]) (σ' := (zCn K0 3 s1 (zup R1 (p + 1) 0 (some (p + 2))) G1 (nc + 1) (ns + 144))) (fun n => rfl) ?_
  refine zW.carr (m := 3) hp rfl rfl (by decide) (fun s2 R2 G2 a2 b2 c2 => ?_)
  refine zW.cputr (m := 4) rfl (zkt hp (o := 1) (by decide) rfl) rfl rfl ?_
  have A2 : ∀ a f, a ≤ p + 1 → s2 a f = s a f := fun a f h => (a2 a f (by omega)).trans (A1 a f h)
  have B2 : ∀ j f : Nat, j < 2 → s2 (p + (2 + j)) f = 0 := fun j f h => by
    by_cases e : j = 1
    · rw [e]; exact b2 f
    · rw [a2 _ f (by omega)]; exact B1 j f (by omega)
  have C2 : ∀ a, a ≤ p → (zup R2 (p + 1) 1 (some (p + 3))) a = R a := fun a h => by
    rw [zupO_ne (by omega), c2 a (by omega)]; exact C1 a h
  have D2 : ∀ f, f < 2 → (zup R2 (p + 1) 1 (some (p + 3))) (p + 1) f = some (p + (2 + f)) := fun f h => by
    rw [zupO_eq]
    by_cases e : f = 1
    · rw [if_pos e, e]
    · rw [if_neg e, c2 (p + 1) (by omega)]; exact D1 f (by omega)
  refine zW.run 2 (pc' := 26) (ls' := [some (.ref (p + 1))]) (st' := [.int (Int32.ofInt ((144 : Nat) : Int)), .ref (p + 1)]) (σ' := (zCn K0 4 s2 (zup R2 (p + 1) 1 (some (p + 3))) G2 (nc + 1 + 1) (ns + 144 + 144))) (fun n => rfl) ?_
  refine zW.carr (m := 4) hp rfl rfl (by decide) (fun s3 R3 G3 a3 b3 c3 => ?_)
  refine zW.cputr (m := 5) rfl (zkt hp (o := 1) (by decide) rfl) rfl rfl ?_
  have A3 : ∀ a f, a ≤ p + 1 → s3 a f = s a f := fun a f h => (a3 a f (by omega)).trans (A2 a f h)
  have B3 : ∀ j f : Nat, j < 3 → s3 (p + (2 + j)) f = 0 := fun j f h => by
    by_cases e : j = 2
    · rw [e]; exact b3 f
    · rw [a3 _ f (by omega)]; exact B2 j f (by omega)
  have C3 : ∀ a, a ≤ p → (zup R3 (p + 1) 2 (some (p + 4))) a = R a := fun a h => by
    rw [zupO_ne (by omega), c3 a (by omega)]; exact C2 a h
  have D3 : ∀ f, f < 3 → (zup R3 (p + 1) 2 (some (p + 4))) (p + 1) f = some (p + (2 + f)) := fun f h => by
    rw [zupO_eq]
    by_cases e : f = 2
    · rw [if_pos e, e]
    · rw [if_neg e, c3 (p + 1) (by omega)]; exact D2 f (by omega)
  refine zW.run 2 (pc' := 35) (ls' := [some (.ref (p + 1))]) (st' := [.int (Int32.ofInt ((144 : Nat) : Int)), .ref (p + 1)]) (σ' := (zCn K0 5 s3 (zup R3 (p + 1) 2 (some (p + 4))) G3 (nc + 1 + 1 + 1) (ns + 144 + 144 + 144))) (fun n => rfl) ?_
  refine zW.carr (m := 5) hp rfl rfl (by decide) (fun s4 R4 G4 a4 b4 c4 => ?_)
  refine zW.cputr (m := 6) rfl (zkt hp (o := 1) (by decide) rfl) rfl rfl ?_
  have A4 : ∀ a f, a ≤ p + 1 → s4 a f = s a f := fun a f h => (a4 a f (by omega)).trans (A3 a f h)
  have B4 : ∀ j f : Nat, j < 4 → s4 (p + (2 + j)) f = 0 := fun j f h => by
    by_cases e : j = 3
    · rw [e]; exact b4 f
    · rw [a4 _ f (by omega)]; exact B3 j f (by omega)
  have C4 : ∀ a, a ≤ p → (zup R4 (p + 1) 3 (some (p + 5))) a = R a := fun a h => by
    rw [zupO_ne (by omega), c4 a (by omega)]; exact C3 a h
  have D4 : ∀ f, f < 4 → (zup R4 (p + 1) 3 (some (p + 5))) (p + 1) f = some (p + (2 + f)) := fun f h => by
    rw [zupO_eq]
    by_cases e : f = 3
    · rw [if_pos e, e]
    · rw [if_neg e, c4 (p + 1) (by omega)]; exact D3 f (by omega)
  refine zW.run 2 (pc' := 44) (ls' := [some (.ref (p + 1))]) (st' := [.int (Int32.ofInt ((144 : Nat) : Int)), .ref (p + 1)]) (σ' := (zCn K0 6 s4 (zup R4 (p + 1) 3 (some (p + 5))) G4 (nc + 1 + 1 + 1 + 1) (ns + 144 + 144 + 144 + 144))) (fun n => rfl) ?_
  refine zW.carr (m := 6) hp rfl rfl (by decide) (fun s5 R5 G5 a5 b5 c5 => ?_)
  refine zW.cputr (m := 7) rfl (zkt hp (o := 1) (by decide) rfl) rfl rfl ?_
  have A5 : ∀ a f, a ≤ p + 1 → s5 a f = s a f := fun a f h => (a5 a f (by omega)).trans (A4 a f h)
  have B5 : ∀ j f : Nat, j < 5 → s5 (p + (2 + j)) f = 0 := fun j f h => by
    by_cases e : j = 4
    · rw [e]; exact b5 f
    · rw [a5 _ f (by omega)]; exact B4 j f (by omega)
  have C5 : ∀ a, a ≤ p → (zup R5 (p + 1) 4 (some (p + 6))) a = R a := fun a h => by
    rw [zupO_ne (by omega), c5 a (by omega)]; exact C4 a h
  have D5 : ∀ f, f < 5 → (zup R5 (p + 1) 4 (some (p + 6))) (p + 1) f = some (p + (2 + f)) := fun f h => by
    rw [zupO_eq]
    by_cases e : f = 4
    · rw [if_pos e, e]
    · rw [if_neg e, c5 (p + 1) (by omega)]; exact D4 f (by omega)
  refine zW.run 2 (pc' := 53) (ls' := [some (.ref (p + 1))]) (st' := [.int (Int32.ofInt ((144 : Nat) : Int)), .ref (p + 1)]) (σ' := (zCn K0 7 s5 (zup R5 (p + 1) 4 (some (p + 6))) G5 (nc + 1 + 1 + 1 + 1 + 1) (ns + 144 + 144 + 144 + 144 + 144))) (fun n => rfl) ?_
  refine zW.carr (m := 7) hp rfl rfl (by decide) (fun s6 R6 G6 a6 b6 c6 => ?_)
  refine zW.cputr (m := 8) rfl (zkt hp (o := 1) (by decide) rfl) rfl rfl ?_
  have A6 : ∀ a f, a ≤ p + 1 → s6 a f = s a f := fun a f h => (a6 a f (by omega)).trans (A5 a f h)
  have B6 : ∀ j f : Nat, j < 6 → s6 (p + (2 + j)) f = 0 := fun j f h => by
    by_cases e : j = 5
    · rw [e]; exact b6 f
    · rw [a6 _ f (by omega)]; exact B5 j f (by omega)
  have C6 : ∀ a, a ≤ p → (zup R6 (p + 1) 5 (some (p + 7))) a = R a := fun a h => by
    rw [zupO_ne (by omega), c6 a (by omega)]; exact C5 a h
  have D6 : ∀ f, f < 6 → (zup R6 (p + 1) 5 (some (p + 7))) (p + 1) f = some (p + (2 + f)) := fun f h => by
    rw [zupO_eq]
    by_cases e : f = 5
    · rw [if_pos e, e]
    · rw [if_neg e, c6 (p + 1) (by omega)]; exact D5 f (by omega)
  refine zW.run 2 (pc' := 62) (ls' := [some (.ref (p + 1))]) (st' := [.int (Int32.ofInt ((144 : Nat) : Int)), .ref (p + 1)]) (σ' := (zCn K0 8 s6 (zup R6 (p + 1) 5 (some (p + 7))) G6 (nc + 1 + 1 + 1 + 1 + 1 + 1) (ns + 144 + 144 + 144 + 144 + 144 + 144))) (fun n => rfl) ?_
  refine zW.carr (m := 8) hp rfl rfl (by decide) (fun s7 R7 G7 a7 b7 c7 => ?_)
  refine zW.cputr (m := 9) rfl (zkt hp (o := 1) (by decide) rfl) rfl rfl ?_
  have A7 : ∀ a f, a ≤ p + 1 → s7 a f = s a f := fun a f h => (a7 a f (by omega)).trans (A6 a f h)
  have B7 : ∀ j f : Nat, j < 7 → s7 (p + (2 + j)) f = 0 := fun j f h => by
    by_cases e : j = 6
    · rw [e]; exact b7 f
    · rw [a7 _ f (by omega)]; exact B6 j f (by omega)
  have C7 : ∀ a, a ≤ p → (zup R7 (p + 1) 6 (some (p + 8))) a = R a := fun a h => by
    rw [zupO_ne (by omega), c7 a (by omega)]; exact C6 a h
  have D7 : ∀ f, f < 7 → (zup R7 (p + 1) 6 (some (p + 8))) (p + 1) f = some (p + (2 + f)) := fun f h => by
    rw [zupO_eq]
    by_cases e : f = 6
    · rw [if_pos e, e]
    · rw [if_neg e, c7 (p + 1) (by omega)]; exact D6 f (by omega)
  refine zW.run 2 (pc' := 71) (ls' := [some (.ref (p + 1))]) (st' := [.int (Int32.ofInt ((144 : Nat) : Int)), .ref (p + 1)]) (σ' := (zCn K0 9 s7 (zup R7 (p + 1) 6 (some (p + 8))) G7 (nc + 1 + 1 + 1 + 1 + 1 + 1 + 1) (ns + 144 + 144 + 144 + 144 + 144 + 144 + 144))) (fun n => rfl) ?_
  refine zW.carr (m := 9) hp rfl rfl (by decide) (fun s8 R8 G8 a8 b8 c8 => ?_)
  refine zW.cputr (m := 10) rfl (zkt hp (o := 1) (by decide) rfl) rfl rfl ?_
  have A8 : ∀ a f, a ≤ p + 1 → s8 a f = s a f := fun a f h => (a8 a f (by omega)).trans (A7 a f h)
  have B8 : ∀ j f : Nat, j < 8 → s8 (p + (2 + j)) f = 0 := fun j f h => by
    by_cases e : j = 7
    · rw [e]; exact b8 f
    · rw [a8 _ f (by omega)]; exact B7 j f (by omega)
  have C8 : ∀ a, a ≤ p → (zup R8 (p + 1) 7 (some (p + 9))) a = R a := fun a h => by
    rw [zupO_ne (by omega), c8 a (by omega)]; exact C7 a h
  have D8 : ∀ f, f < 8 → (zup R8 (p + 1) 7 (some (p + 9))) (p + 1) f = some (p + (2 + f)) := fun f h => by
    rw [zupO_eq]
    by_cases e : f = 7
    · rw [if_pos e, e]
    · rw [if_neg e, c8 (p + 1) (by omega)]; exact D7 f (by omega)
  refine zW.run 2 (pc' := 80) (ls' := [some (.ref (p + 1))]) (st' := [.int (Int32.ofInt ((144 : Nat) : Int)), .ref (p + 1)]) (σ' := (zCn K0 10 s8 (zup R8 (p + 1) 7 (some (p + 9))) G8 (nc + 1 + 1 + 1 + 1 + 1 + 1 + 1 + 1) (ns + 144 + 144 + 144 + 144 + 144 + 144 + 144 + 144))) (fun n => rfl) ?_
  refine zW.carr (m := 10) hp rfl rfl (by decide) (fun s9 R9 G9 a9 b9 c9 => ?_)
  refine zW.cputr (m := 11) rfl (zkt hp (o := 1) (by decide) rfl) rfl rfl ?_
  have A9 : ∀ a f, a ≤ p + 1 → s9 a f = s a f := fun a f h => (a9 a f (by omega)).trans (A8 a f h)
  have B9 : ∀ j f : Nat, j < 9 → s9 (p + (2 + j)) f = 0 := fun j f h => by
    by_cases e : j = 8
    · rw [e]; exact b9 f
    · rw [a9 _ f (by omega)]; exact B8 j f (by omega)
  have C9 : ∀ a, a ≤ p → (zup R9 (p + 1) 8 (some (p + 10))) a = R a := fun a h => by
    rw [zupO_ne (by omega), c9 a (by omega)]; exact C8 a h
  have D9 : ∀ f, f < 9 → (zup R9 (p + 1) 8 (some (p + 10))) (p + 1) f = some (p + (2 + f)) := fun f h => by
    rw [zupO_eq]
    by_cases e : f = 8
    · rw [if_pos e, e]
    · rw [if_neg e, c9 (p + 1) (by omega)]; exact D8 f (by omega)
  refine zW.run 2 (pc' := 87) (ls' := [some (.ref (p + 1))]) (st' := [.int (Int32.ofInt (-1)), .ref (p + 1)]) (σ' := (zCn K0 11 s9 (zup R9 (p + 1) 8 (some (p + 10))) G9 (nc + 1 + 1 + 1 + 1 + 1 + 1 + 1 + 1 + 1) (ns + 144 + 144 + 144 + 144 + 144 + 144 + 144 + 144 + 144))) (fun n => rfl) ?_
  refine zW.cput (m := 11) rfl (zkt hp (o := 1) (by decide) rfl) rfl ?_
  refine zW.run 2 (pc' := 92) (ls' := [some (.ref (p + 1))]) (st' := [.int (Int32.ofInt (-1)), .ref (p + 1)]) (σ' := (zCn K0 11 (zup s9 (p + 1) 12 (-1)) (zup R9 (p + 1) 8 (some (p + 10))) G9 (nc + 1 + 1 + 1 + 1 + 1 + 1 + 1 + 1 + 1) (ns + 144 + 144 + 144 + 144 + 144 + 144 + 144 + 144 + 144))) (fun n => rfl) ?_
  refine zW.cput (m := 11) rfl (zkt hp (o := 1) (by decide) rfl) rfl ?_
  refine zW.vret rfl (hQ _ _ _ (fun a f h => ?_) (fun f => ?_) (fun j f h => ?_) C9 D9)
  · rw [zup_n1 (by omega), zup_n1 (by omega)]; exact A9 a f (by omega)
  · rw [zup_e1, zup_e1, A9 _ f (by omega)]; omega
  · rw [zup_n1 (by omega), zup_n1 (by omega)]; exact B9 j f h
/-- how far a siege stands: m cells of it are there -/
def zSm (p : Nat) (s0 : zJ) (m : Nat) (hv : Int) (s : zJ) : Prop := (∀ a f, a < p → s a f = s0 a f) ∧ (∀ o f, 0 < o → o < m → s (p + o) f = zIv o f) ∧ ∀ f, s p f = if f = 12 then hv else 0
theorem zSm.go {p m m2 : Nat} {s0 s s2 : zJ} {hv : Int} (h : zSm p s0 m hv s) (h0 : 0 < m) (k : ∀ a f, a < p + m → s2 a f = s a f) (k2 : ∀ o f, m ≤ o → o < m2 → s2 (p + o) f = zIv o f) : zSm p s0 m2 hv s2 := by
  refine ⟨fun a f ha => (k a f (by omega)).trans (h.1 a f ha), fun o f h1 h2 => ?_, fun f => (k p f (by omega)).trans (h.2.2 f)⟩
  by_cases c : o < m
  · exact (k _ f (by omega)).trans (h.2.1 o f h1 c)
  · exact k2 o f (by omega) h2
def zRq (p : Nat) (R0 R : Nat → Nat → Option Nat) : Prop := (∀ a, a < p → R a = R0 a) ∧ R p 0 = some (p + 1) ∧ R p 1 = some (p + 11) ∧ R p 2 = some (p + 12) ∧ R p 3 = some (p + 13) ∧ R p 4 = some (p + 14) ∧ R p 5 = some (p + 15) ∧ R p 6 = some (p + 16) ∧ R (p + 16) 0 = some (p + 17) ∧ R (p + 16) 1 = some (p + 18) ∧ ∀ f, f < 9 → R (p + 1) f = some (p + (2 + f))
theorem zRq.go {p : Nat} {R0 R R2 : Nat → Nat → Option Nat} (h : zRq p R0 R) (k : ∀ a, a ≤ p + 10 ∨ a = p + 16 → R2 a = R a) : zRq p R0 R2 := by
  obtain ⟨h0, h1, h2, h3, h4, h5, h6, h7, h8, h9, h10⟩ := h
  refine ⟨fun a ha => (k a (by omega)).trans (h0 a ha), ?_, ?_, ?_, ?_, ?_, ?_, ?_, ?_, ?_, fun f hf => ?_⟩
  · rw [k p (by omega)]; exact h1
  · rw [k p (by omega)]; exact h2
  · rw [k p (by omega)]; exact h3
  · rw [k p (by omega)]; exact h4
  · rw [k p (by omega)]; exact h5
  · rw [k p (by omega)]; exact h6
  · rw [k p (by omega)]; exact h7
  · rw [k _ (by omega)]; exact h8
  · rw [k _ (by omega)]; exact h9
  · rw [k _ (by omega)]; exact h10 f hf
theorem zIv_r {o f : Nat} (h : (2 ≤ o ∧ o < 14) ∨ o = 17 ∨ o = 18 ∨ (47 ≤ o ∧ o % 2 = 0)) : zIv o f = 0 := by
  unfold zIv
  rw [if_neg (by omega), if_neg (by omega), if_neg (by omega), if_neg (by omega), if_neg (by omega), if_neg (by omega), if_neg (by omega)]
theorem zIv_g {o f : Nat} (h : 19 ≤ o ∧ o < 35) : zIv o f = if f = 0 ∨ f = 1 ∨ f = 6 then -1 else 0 := by
  unfold zIv
  rw [if_neg (by omega), if_neg (by omega), if_neg (by omega), if_neg (by omega), if_pos h]
theorem zIv_c {o f : Nat} (h : 35 ≤ o ∧ o < 47) : zIv o f = if f = 0 ∨ f = 1 ∨ f = 5 then -1 else 0 := by
  unfold zIv
  rw [if_neg (by omega), if_neg (by omega), if_neg (by omega), if_neg (by omega), if_neg (by omega), if_pos h]
theorem zIv_m {o f : Nat} (h : 47 ≤ o ∧ o % 2 = 1) : zIv o f = if f = 1 then -1 else 0 := by
  unfold zIv
  rw [if_neg (by omega), if_neg (by omega), if_neg (by omega), if_neg (by omega), if_neg (by omega), if_neg (by omega), if_pos h]
theorem zSm.hon {p m : Nat} {s0 s : zJ} (h : zSm p s0 m 0 s) (h0 : 0 < m) : zSm p s0 m (-1) (zup s p 12 (-1)) := by
  refine ⟨fun a f ha => ?_, fun o f h1 h2 => ?_, fun f => ?_⟩
  · rw [zup_n1 (by omega)]; exact h.1 a f ha
  · rw [zup_n1 (by omega)]; exact h.2.1 o f h1 h2
  · rw [zup_e1, h.2.2 f]
    by_cases e : f = 12
    · rw [if_pos e, if_pos e]
    · rw [if_neg e, if_neg e, if_neg e]
theorem zW.cast_ {a v k kv n nv : Nat} {i : Int} (he : zlk (zmC (zP y)) pc = some (.aastore, k, kv, r3, tg)) (hk : (K0 ++ zS1.take m)[a]? = some (k, n)) (hv : (K0 ++ zS1.take m)[v]? = some (kv, nv)) (hi : 0 ≤ i ∧ i < n) (hn : n < 2147483648) (q : zW ro y (pc + 1) ls st (zCn K0 m s (zup R a i.toNat (some v)) G nc ns) Q) : zW ro y pc ls (.ref v :: .int (Int32.ofInt i) :: .ref a :: st) (zCn K0 m s R G nc ns) Q := by
  have e : (Int32.ofInt i).toNatClampNeg = i.toNat := zj_cl ⟨hi.1, by omega⟩
  refine zW.go he (fun rec => ?_) q
  dsimp only [zst]
  rw [show (zCn K0 m s R G nc ns).1[a]? = some (k, n) from hk, show (zCn K0 m s R G nc ns).1[v]? = some (kv, nv) from hv]
  dsimp only
  rw [if_pos ⟨rfl, rfl, zj_in hi hn⟩, e]
theorem zS1_g {i : Nat} (hi : i < 16) : zS1[19 + i]? = some (3, 7) := by
  match i, hi with
  | 0, _ | 1, _ | 2, _ | 3, _ | 4, _ | 5, _ | 6, _ | 7, _ | 8, _ | 9, _ | 10, _ | 11, _ | 12, _ | 13, _ | 14, _ | 15, _ => rfl
  | n + 16, h9 => exact absurd h9 (by omega)
theorem zS1_c {i : Nat} (hi : i < 12) : zS1[35 + i]? = some (4, 6) := by
  match i, hi with
  | 0, _ | 1, _ | 2, _ | 3, _ | 4, _ | 5, _ | 6, _ | 7, _ | 8, _ | 9, _ | 10, _ | 11, _ => rfl
  | n + 12, h9 => exact absurd h9 (by omega)
theorem zS1_m {i : Nat} (hi : i < 6) : zS1[47 + 2 * i]? = some (5, 7) ∧ zS1[47 + 2 * i + 1]? = some (100, 6) := by
  match i, hi with
  | 0, _ | 1, _ | 2, _ | 3, _ | 4, _ | 5, _ => exact ⟨rfl, rfl⟩
  | n + 6, h9 => exact absurd h9 (by omega)
/-- what a new siege is -/
def zSg (p : Nat) (s0 s : zJ) (R0 R : Nat → Nat → Option Nat) : Prop := zSm p s0 59 (-1) s ∧ zRq p R0 R ∧ (∀ i, i < 16 → R (p + 11) i = some (p + (19 + i))) ∧ (∀ i, i < 12 → R (p + 12) i = some (p + (35 + i))) ∧ (∀ i, i < 6 → R (p + 13) i = some (p + (47 + 2 * i))) ∧ ∀ i, i < 6 → R (p + (47 + 2 * i)) 0 = some (p + (47 + 2 * i + 1))
set_option maxHeartbeats 8000000 in
theorem c_Siege (hp : K0.length = p) (h0 : ∀ f, s p f = 0) (hQ : ∀ (s2 : zJ) (R2 : Nat → Nat → Option Nat) (G2 : Nat → Nat → Int64) (nc2 ns2 : Nat), zSg p s s2 R R2 → nc2 ≤ nc + 100 → ns2 ≤ ns + 4000 → Q (.inl none) (zCn K0 59 s2 R2 G2 nc2 ns2)) : zW ro 125 0 (zfst [.ref p] 2) [] (zCn K0 1 s R G nc ns) Q := by
  show zW ro 125 0 [some (.ref p), none] [] (zCn K0 1 s R G nc ns) Q
  -- the mines
  have Lm : ∀ n i : Nat, 6 - i < n → i ≤ 6 → ∀ (s2 : zJ) (R2 : Nat → Nat → Option Nat) (G2 : Nat → Nat → Int64) (nc2 ns2 : Nat), zSm p s (47 + 2 * i) (-1) s2 → zRq p R R2 → (∀ j, j < 16 → R2 (p + 11) j = some (p + (19 + j))) → (∀ j, j < 12 → R2 (p + 12) j = some (p + (35 + j))) → (∀ j, j < i → R2 (p + 13) j = some (p + (47 + 2 * j))) → (∀ j, j < i → R2 (p + (47 + 2 * j)) 0 = some (p + (47 + 2 * j + 1))) → nc2 ≤ nc + 60 + 2 * i → ns2 ≤ ns + 2000 + 20 * i → zW ro 125 136 [some (.ref p), some (.int (Int32.ofInt (i : Int)))] [] (zCn K0 (47 + 2 * i) s2 R2 G2 nc2 ns2) Q := by
    intro n
    induction n with
    | zero => intros; omega
    | succ n ih =>
      intro i hn hi s2 R2 G2 nc2 ns2 hS hR hA hB hC hD hc hs
      refine zW.run 2 (pc' := 139) (ls' := [some (.ref p), some (.int (Int32.ofInt (i : Int)))]) (st' := [.int (Int32.ofInt 6), .int (Int32.ofInt (i : Int))]) (σ' := zCn K0 (47 + 2 * i) s2 R2 G2 nc2 ns2) (fun n => rfl) ?_
      refine zW.jcmp_ge rfl (by omega) (fun c => ?_) (fun c => ?_)
      · have ei : i = 6 := by omega
        subst ei
        exact zW.vret rfl (hQ s2 R2 G2 nc2 ns2 ⟨hS, hR, hA, hB, hC, hD⟩ (by omega) (by omega))
      · have hm := zS1_m (i := i) (by omega)
        refine zW.run 1 (pc' := 143) (ls' := [some (.ref p), some (.int (Int32.ofInt (i : Int)))]) (st' := [.ref p]) (σ' := zCn K0 (47 + 2 * i) s2 R2 G2 nc2 ns2) (fun n => rfl) ?_
        refine zW.getf (v := .ref (p + 13)) rfl (zkt hp (o := 0) (by omega) rfl) (congrArg va_rf hR.2.2.2.2.1) ?_
        refine zW.run 1 (pc' := 147) (ls' := [some (.ref p), some (.int (Int32.ofInt (i : Int)))]) (st' := [.int (Int32.ofInt (i : Int)), .ref (p + 13)]) (σ' := zCn K0 (47 + 2 * i) s2 R2 G2 nc2 ns2) (fun n => rfl) ?_
        refine zW.cnew hp rfl hm.1 rfl (fun s3 R3 G3 a3 b3 c3 => ?_)
        refine zW.run 1 (pc' := 151) (ls' := [some (.ref p), some (.int (Int32.ofInt (i : Int)))]) (st' := [.ref (p + (47 + 2 * i)), .ref (p + (47 + 2 * i)), .int (Int32.ofInt (i : Int)), .ref (p + 13)]) (σ' := zCn K0 (47 + 2 * i + 1) s3 R3 G3 (nc2 + 1) (ns2 + 7)) (fun n => rfl) ?_
        refine zW.callI rfl (by decide) rfl rfl rfl rfl (zkt hp (Nat.lt_succ_self _) hm.1) (Nat.le_of_ble_eq_true rfl) ?_
        refine c_Mine hp hm.1 hm.2 (fun s4 R4 G4 a4 b4 d4 c4 e4 => ?_)
        show zW ro 125 154 [some (.ref p), some (.int (Int32.ofInt (i : Int)))] [.ref (p + (47 + 2 * i)), .int (Int32.ofInt (i : Int)), .ref (p + 13)] (zCn K0 (47 + 2 * i + 2) s4 R4 G4 (nc2 + 1 + 1) (ns2 + 7 + 6)) Q
        refine zW.cast_ rfl (zkt hp (o := 13) (by omega) rfl) (zkt hp (o := 47 + 2 * i) (by omega) hm.1) (by omega) (by decide) ?_
        refine zW.jinc (ls' := [some (.ref p), some (.int (Int32.ofInt ((i : Int) + 1)))]) rfl (Nat.le_of_ble_eq_true rfl) rfl rfl ?_
        refine zW.run 1 (pc' := 136) (ls' := [some (.ref p), some (.int (Int32.ofInt ((i : Int) + 1)))]) (st' := []) (σ' := zCn K0 (47 + 2 * i + 2) s4 (zup R4 (p + 13) i (some (p + (47 + 2 * i)))) G4 (nc2 + 1 + 1) (ns2 + 7 + 6)) (fun n => rfl) ?_
        have e1 : 47 + 2 * (i + 1) = 47 + 2 * i + 2 := by omega
        have q := ih (i + 1) (by omega) (by omega) s4 (zup R4 (p + 13) i (some (p + (47 + 2 * i)))) G4 (nc2 + 1 + 1) (ns2 + 7 + 6) (by
          rw [e1]
          refine hS.go (by omega) (fun a f ha => (a4 a f (by omega) (by omega)).trans (a3 a f (by omega))) (fun o f h1 h2 => ?_)
          by_cases e : o = 47 + 2 * i
          · rw [e, b4 f, b3 f, zIv_m (by omega)]
            omega
          · have eo : o = 47 + 2 * i + 1 := by omega
            rw [eo, d4 f, zIv_r (by omega)]) (hR.go (fun a ha => by rw [zupO_ne (by omega), c4 a (by omega) (by omega), c3 a (by omega)])) (fun j hj => by rw [zupO_ne (by omega), c4 _ (by omega) (by omega), c3 _ (by omega)]; exact hA j hj) (fun j hj => by rw [zupO_ne (by omega), c4 _ (by omega) (by omega), c3 _ (by omega)]; exact hB j hj) (fun j hj => by
          rw [zupO_eq]
          by_cases e : j = i
          · rw [if_pos e, e]
          · rw [if_neg e, c4 _ (by omega) (by omega), c3 _ (by omega)]; exact hC j (by omega)) (fun j hj => by
          rw [zupO_ne (by omega)]
          by_cases e : j = i
          · rw [e]; exact e4
          · rw [c4 _ (by omega) (by omega), c3 _ (by omega)]; exact hD j (by omega)) (by omega) (by omega)
        rw [e1] at q
        exact q
  have Lc : ∀ n i : Nat, 12 - i < n → i ≤ 12 → ∀ (s2 : zJ) (R2 : Nat → Nat → Option Nat) (G2 : Nat → Nat → Int64) (nc2 ns2 : Nat), zSm p s (35 + i) (-1) s2 → zRq p R R2 → (∀ j, j < 16 → R2 (p + 11) j = some (p + (19 + j))) → (∀ j, j < i → R2 (p + 12) j = some (p + (35 + j))) → nc2 ≤ nc + 40 + i → ns2 ≤ ns + 1700 + 10 * i → zW ro 125 109 [some (.ref p), some (.int (Int32.ofInt (i : Int)))] [] (zCn K0 (35 + i) s2 R2 G2 nc2 ns2) Q := by
    intro n
    induction n with
    | zero => intros; omega
    | succ n ih =>
      intro i hn hi s2 R2 G2 nc2 ns2 hS hR hA hB hc hs
      refine zW.run 2 (pc' := 112) (ls' := [some (.ref p), some (.int (Int32.ofInt (i : Int)))]) (st' := [.int (Int32.ofInt 12), .int (Int32.ofInt (i : Int))]) (σ' := zCn K0 (35 + i) s2 R2 G2 nc2 ns2) (fun n => rfl) ?_
      refine zW.jcmp_ge rfl (by omega) (fun c => ?_) (fun c => ?_)
      · have ei : i = 12 := by omega
        subst ei
        refine zW.run 2 (pc' := 136) (ls' := [some (.ref p), some (.int (Int32.ofInt ((0 : Nat) : Int)))]) (st' := []) (σ' := zCn K0 (47 + 2 * 0) s2 R2 G2 nc2 ns2) (fun n => rfl) ?_
        exact Lm _ 0 (Nat.lt_succ_self _) (by omega) s2 R2 G2 nc2 ns2 hS hR hA hB (fun j hj => absurd hj (Nat.not_lt_zero j)) (fun j hj => absurd hj (Nat.not_lt_zero j)) (by omega) (by omega)
      · have hm := zS1_c (i := i) (by omega)
        refine zW.run 1 (pc' := 116) (ls' := [some (.ref p), some (.int (Int32.ofInt (i : Int)))]) (st' := [.ref p]) (σ' := zCn K0 (35 + i) s2 R2 G2 nc2 ns2) (fun n => rfl) ?_
        refine zW.getf (v := .ref (p + 12)) rfl (zkt hp (o := 0) (by omega) rfl) (congrArg va_rf hR.2.2.2.1) ?_
        refine zW.run 1 (pc' := 120) (ls' := [some (.ref p), some (.int (Int32.ofInt (i : Int)))]) (st' := [.int (Int32.ofInt (i : Int)), .ref (p + 12)]) (σ' := zCn K0 (35 + i) s2 R2 G2 nc2 ns2) (fun n => rfl) ?_
        refine zW.cnew hp rfl hm rfl (fun s3 R3 G3 a3 b3 c3 => ?_)
        refine zW.run 1 (pc' := 124) (ls' := [some (.ref p), some (.int (Int32.ofInt (i : Int)))]) (st' := [.ref (p + (35 + i)), .ref (p + (35 + i)), .int (Int32.ofInt (i : Int)), .ref (p + 12)]) (σ' := zCn K0 (35 + i + 1) s3 R3 G3 (nc2 + 1) (ns2 + 6)) (fun n => rfl) ?_
        refine zW.callI rfl (by decide) rfl rfl rfl rfl (zkt hp (Nat.lt_succ_self _) hm) (Nat.le_of_ble_eq_true rfl) ?_
        refine c_Company hp hm ?_
        show zW ro 125 127 [some (.ref p), some (.int (Int32.ofInt (i : Int)))] [.ref (p + (35 + i)), .int (Int32.ofInt (i : Int)), .ref (p + 12)] (zCn K0 (35 + i + 1) (zup (zup (zup (zup s3 (p + (35 + i)) 0 (-1)) (p + (35 + i)) 1 (-1)) (p + (35 + i)) 4 0) (p + (35 + i)) 5 (-1)) R3 G3 (nc2 + 1) (ns2 + 6)) Q
        refine zW.cast_ rfl (zkt hp (o := 12) (by omega) rfl) (zkt hp (o := 35 + i) (by omega) hm) (by omega) (by decide) ?_
        refine zW.jinc (ls' := [some (.ref p), some (.int (Int32.ofInt ((i : Int) + 1)))]) rfl (Nat.le_of_ble_eq_true rfl) rfl rfl ?_
        refine zW.run 1 (pc' := 109) (ls' := [some (.ref p), some (.int (Int32.ofInt ((i : Int) + 1)))]) (st' := []) (σ' := zCn K0 (35 + (i + 1)) (zup (zup (zup (zup s3 (p + (35 + i)) 0 (-1)) (p + (35 + i)) 1 (-1)) (p + (35 + i)) 4 0) (p + (35 + i)) 5 (-1)) (zup R3 (p + 12) i (some (p + (35 + i)))) G3 (nc2 + 1) (ns2 + 6)) (fun n => rfl) ?_
        refine ih (i + 1) (by omega) (by omega) _ _ _ _ _ ?_ (hR.go (fun a ha => by rw [zupO_ne (by omega), c3 a (by omega)])) (fun j hj => by rw [zupO_ne (by omega), c3 _ (by omega)]; exact hA j hj) (fun j hj => ?_) (by omega) (by omega)
        · refine hS.go (by omega) (fun a f ha => by rw [zup_n1 (by omega), zup_n1 (by omega), zup_n1 (by omega), zup_n1 (by omega)]; exact a3 a f (by omega)) (fun o f h1 h2 => ?_)
          have e : o = 35 + i := by omega
          rw [e, zup_e1, zup_e1, zup_e1, zup_e1, b3 f, zIv_c (by omega)]
          omega
        · rw [zupO_eq]
          by_cases e : j = i
          · rw [if_pos e, e]
          · rw [if_neg e, c3 _ (by omega)]; exact hB j (by omega)
  have Lg : ∀ n i : Nat, 16 - i < n → i ≤ 16 → ∀ (s2 : zJ) (R2 : Nat → Nat → Option Nat) (G2 : Nat → Nat → Int64) (nc2 ns2 : Nat), zSm p s (19 + i) (-1) s2 → zRq p R R2 → (∀ j, j < i → R2 (p + 11) j = some (p + (19 + j))) → nc2 ≤ nc + 20 + i → ns2 ≤ ns + 1500 + 10 * i → zW ro 125 82 [some (.ref p), some (.int (Int32.ofInt (i : Int)))] [] (zCn K0 (19 + i) s2 R2 G2 nc2 ns2) Q := by
    intro n
    induction n with
    | zero => intros; omega
    | succ n ih =>
      intro i hn hi s2 R2 G2 nc2 ns2 hS hR hA hc hs
      refine zW.run 2 (pc' := 85) (ls' := [some (.ref p), some (.int (Int32.ofInt (i : Int)))]) (st' := [.int (Int32.ofInt 16), .int (Int32.ofInt (i : Int))]) (σ' := zCn K0 (19 + i) s2 R2 G2 nc2 ns2) (fun n => rfl) ?_
      refine zW.jcmp_ge rfl (by omega) (fun c => ?_) (fun c => ?_)
      · have ei : i = 16 := by omega
        subst ei
        refine zW.run 2 (pc' := 109) (ls' := [some (.ref p), some (.int (Int32.ofInt ((0 : Nat) : Int)))]) (st' := []) (σ' := zCn K0 (35 + 0) s2 R2 G2 nc2 ns2) (fun n => rfl) ?_
        exact Lc _ 0 (Nat.lt_succ_self _) (by omega) s2 R2 G2 nc2 ns2 hS hR hA (fun j hj => absurd hj (Nat.not_lt_zero j)) (by omega) (by omega)
      · have hm := zS1_g (i := i) (by omega)
        refine zW.run 1 (pc' := 89) (ls' := [some (.ref p), some (.int (Int32.ofInt (i : Int)))]) (st' := [.ref p]) (σ' := zCn K0 (19 + i) s2 R2 G2 nc2 ns2) (fun n => rfl) ?_
        refine zW.getf (v := .ref (p + 11)) rfl (zkt hp (o := 0) (by omega) rfl) (congrArg va_rf hR.2.2.1) ?_
        refine zW.run 1 (pc' := 93) (ls' := [some (.ref p), some (.int (Int32.ofInt (i : Int)))]) (st' := [.int (Int32.ofInt (i : Int)), .ref (p + 11)]) (σ' := zCn K0 (19 + i) s2 R2 G2 nc2 ns2) (fun n => rfl) ?_
        refine zW.cnew hp rfl hm rfl (fun s3 R3 G3 a3 b3 c3 => ?_)
        refine zW.run 1 (pc' := 97) (ls' := [some (.ref p), some (.int (Int32.ofInt (i : Int)))]) (st' := [.ref (p + (19 + i)), .ref (p + (19 + i)), .int (Int32.ofInt (i : Int)), .ref (p + 11)]) (σ' := zCn K0 (19 + i + 1) s3 R3 G3 (nc2 + 1) (ns2 + 7)) (fun n => rfl) ?_
        refine zW.callI rfl (by decide) rfl rfl rfl rfl (zkt hp (Nat.lt_succ_self _) hm) (Nat.le_of_ble_eq_true rfl) ?_
        refine c_Gun hp hm ?_
        show zW ro 125 100 [some (.ref p), some (.int (Int32.ofInt (i : Int)))] [.ref (p + (19 + i)), .int (Int32.ofInt (i : Int)), .ref (p + 11)] (zCn K0 (19 + i + 1) (zup (zup (zup (zup s3 (p + (19 + i)) 0 (-1)) (p + (19 + i)) 1 (-1)) (p + (19 + i)) 5 0) (p + (19 + i)) 6 (-1)) R3 G3 (nc2 + 1) (ns2 + 7)) Q
        refine zW.cast_ rfl (zkt hp (o := 11) (by omega) rfl) (zkt hp (o := 19 + i) (by omega) hm) (by omega) (by decide) ?_
        refine zW.jinc (ls' := [some (.ref p), some (.int (Int32.ofInt ((i : Int) + 1)))]) rfl (Nat.le_of_ble_eq_true rfl) rfl rfl ?_
        refine zW.run 1 (pc' := 82) (ls' := [some (.ref p), some (.int (Int32.ofInt ((i : Int) + 1)))]) (st' := []) (σ' := zCn K0 (19 + (i + 1)) (zup (zup (zup (zup s3 (p + (19 + i)) 0 (-1)) (p + (19 + i)) 1 (-1)) (p + (19 + i)) 5 0) (p + (19 + i)) 6 (-1)) (zup R3 (p + 11) i (some (p + (19 + i)))) G3 (nc2 + 1) (ns2 + 7)) (fun n => rfl) ?_
        refine ih (i + 1) (by omega) (by omega) _ _ _ _ _ ?_ (hR.go (fun a ha => by rw [zupO_ne (by omega), c3 a (by omega)])) (fun j hj => ?_) (by omega) (by omega)
        · refine hS.go (by omega) (fun a f ha => by rw [zup_n1 (by omega), zup_n1 (by omega), zup_n1 (by omega), zup_n1 (by omega)]; exact a3 a f (by omega)) (fun o f h1 h2 => ?_)
          have e : o = 19 + i := by omega
          rw [e, zup_e1, zup_e1, zup_e1, zup_e1, b3 f, zIv_g (by omega)]
          omega
        · rw [zupO_eq]
          by_cases e : j = i
          · rw [if_pos e, e]
          · rw [if_neg e, c3 _ (by omega)]; exact hA j (by omega)
  have S1 : zSm p s 1 0 s := ⟨fun a f _ => rfl, fun o f h1 h2 => absurd h2 (by omega), fun f => by rw [h0 f]; omega⟩
  have F1 : ∀ a, a < p → R a = R a := fun a _ => rfl
  refine zW.run 3 (pc' := 5) (ls' := [some (.ref p), none]) (st' := [.ref p]) (σ' := (zCn K0 1 s R G (nc) (ns))) (fun n => rfl) ?_
  refine zW.cnew (m := 1) hp rfl rfl rfl (fun t1 Q1 H1 a1 b1 c1 => ?_)
  refine zW.run 1 (pc' := 9) (ls' := [some (.ref p), none]) (st' := [.ref (p + 1), .ref (p + 1), .ref p]) (σ' := (zCn K0 2 t1 Q1 H1 (nc + 1) (ns + 14))) (fun n => rfl) ?_
  refine zW.callI rfl (by decide) rfl rfl rfl rfl (zkt hp (o := 1) (m := 2) (by decide) rfl) (Nat.le_of_ble_eq_true rfl) ?_
  refine c_Ground hp (fun g1 Rg Gg ga gb gc gd ge => ?_)
  show zW ro 125 12 [some (.ref p), none] [.ref (p + 1), .ref p] (zCn K0 11 g1 Rg Gg (nc + 1 + 9) (ns + 14 + 1296)) Q
  have S2 : zSm p s 11 0 g1 := S1.go (by decide) (fun a f ha => (ga a f (by omega)).trans (a1 a f (by omega))) (fun o f h1 h2 => by
    by_cases e : o = 1
    · rw [e, gb f, b1 f]; rfl
    · obtain ⟨j, rfl⟩ : ∃ j, o = 2 + j := ⟨o - 2, by omega⟩
      rw [gc j f (by omega), zIv_r (by omega)])
  have F2 : ∀ a, a < p → Rg a = R a := fun a h => by rw [gd a (by omega), c1 a (by omega)]
  have rg_2 : ∀ f, f < 9 → Rg (p + 1) f = some (p + (2 + f)) := ge
  refine zW.cputr (m := 11) rfl (zkt hp (o := 0) (by decide) rfl) rfl rfl ?_
  have F3 : ∀ a, a < p → (zup Rg p 0 (some (p + 1))) a = R a := fun a h => by rw [zupO_ne (by omega)]; exact F2 a h
  have rg_3 : ∀ f, f < 9 → (zup Rg p 0 (some (p + 1))) (p + 1) f = some (p + (2 + f)) := fun f h => by rw [zupO_ne (by omega)]; exact rg_2 f h
  have r0_3 : (zup Rg p 0 (some (p + 1))) p 0 = some (p + 1) := by rw [zupO_eq]; rfl
  refine zW.run 2 (pc' := 18) (ls' := [some (.ref p), none]) (st' := [.int (Int32.ofInt ((16 : Nat) : Int)), .ref p]) (σ' := (zCn K0 11 g1 (zup Rg p 0 (some (p + 1))) Gg (nc + 1 + 9) (ns + 14 + 1296))) (fun n => rfl) ?_
  refine zW.cars (m := 11) hp rfl rfl (by decide) (fun t2 Q2 H2 a2 b2 c2 => ?_)
  have S3 : zSm p s 12 0 t2 := S2.go (by decide) (fun a f ha => a2 a f (by omega)) (fun o f h1 h2 => by rw [show o = 11 by omega, b2 f]; rfl)
  have F4 : ∀ a, a < p → Q2 a = R a := fun a h => by rw [c2 a (by omega)]; exact F3 a h
  have r0_4 : Q2 p 0 = some (p + 1) := by rw [c2 p (by omega)]; exact r0_3
  have rg_4 : ∀ f, f < 9 → Q2 (p + 1) f = some (p + (2 + f)) := fun f h => by rw [c2 (p + 1) (by omega)]; exact rg_3 f h
  refine zW.cputr (m := 12) rfl (zkt hp (o := 0) (by decide) rfl) rfl rfl ?_
  have F5 : ∀ a, a < p → (zup Q2 p 1 (some (p + 11))) a = R a := fun a h => by rw [zupO_ne (by omega)]; exact F4 a h
  have r0_5 : (zup Q2 p 1 (some (p + 11))) p 0 = some (p + 1) := by rw [zupO_eq, if_neg (by decide)]; exact r0_4
  have rg_5 : ∀ f, f < 9 → (zup Q2 p 1 (some (p + 11))) (p + 1) f = some (p + (2 + f)) := fun f h => by rw [zupO_ne (by omega)]; exact rg_4 f h
  have r1_5 : (zup Q2 p 1 (some (p + 11))) p 1 = some (p + 11) := by rw [zupO_eq]; rfl
  refine zW.run 2 (pc' := 27) (ls' := [some (.ref p), none]) (st' := [.int (Int32.ofInt ((12 : Nat) : Int)), .ref p]) (σ' := (zCn K0 12 t2 (zup Q2 p 1 (some (p + 11))) H2 (nc + 1 + 9 + 1) (ns + 14 + 1296 + 16))) (fun n => rfl) ?_
  refine zW.cars (m := 12) hp rfl rfl (by decide) (fun t3 Q3 H3 a3 b3 c3 => ?_)
  have S4 : zSm p s 13 0 t3 := S3.go (by decide) (fun a f ha => a3 a f (by omega)) (fun o f h1 h2 => by rw [show o = 12 by omega, b3 f]; rfl)
  have F6 : ∀ a, a < p → Q3 a = R a := fun a h => by rw [c3 a (by omega)]; exact F5 a h
  have r0_6 : Q3 p 0 = some (p + 1) := by rw [c3 p (by omega)]; exact r0_5
  have r1_6 : Q3 p 1 = some (p + 11) := by rw [c3 p (by omega)]; exact r1_5
  have rg_6 : ∀ f, f < 9 → Q3 (p + 1) f = some (p + (2 + f)) := fun f h => by rw [c3 (p + 1) (by omega)]; exact rg_5 f h
  refine zW.cputr (m := 13) rfl (zkt hp (o := 0) (by decide) rfl) rfl rfl ?_
  have F7 : ∀ a, a < p → (zup Q3 p 2 (some (p + 12))) a = R a := fun a h => by rw [zupO_ne (by omega)]; exact F6 a h
  have r0_7 : (zup Q3 p 2 (some (p + 12))) p 0 = some (p + 1) := by rw [zupO_eq, if_neg (by decide)]; exact r0_6
  have r1_7 : (zup Q3 p 2 (some (p + 12))) p 1 = some (p + 11) := by rw [zupO_eq, if_neg (by decide)]; exact r1_6
  have rg_7 : ∀ f, f < 9 → (zup Q3 p 2 (some (p + 12))) (p + 1) f = some (p + (2 + f)) := fun f h => by rw [zupO_ne (by omega)]; exact rg_6 f h
  have r2_7 : (zup Q3 p 2 (some (p + 12))) p 2 = some (p + 12) := by rw [zupO_eq]; rfl
  refine zW.run 2 (pc' := 36) (ls' := [some (.ref p), none]) (st' := [.int (Int32.ofInt ((6 : Nat) : Int)), .ref p]) (σ' := (zCn K0 13 t3 (zup Q3 p 2 (some (p + 12))) H3 (nc + 1 + 9 + 1 + 1) (ns + 14 + 1296 + 16 + 12))) (fun n => rfl) ?_
  refine zW.cars (m := 13) hp rfl rfl (by decide) (fun t4 Q4 H4 a4 b4 c4 => ?_)
  have S5 : zSm p s 14 0 t4 := S4.go (by decide) (fun a f ha => a4 a f (by omega)) (fun o f h1 h2 => by rw [show o = 13 by omega, b4 f]; rfl)
  have F8 : ∀ a, a < p → Q4 a = R a := fun a h => by rw [c4 a (by omega)]; exact F7 a h
  have r0_8 : Q4 p 0 = some (p + 1) := by rw [c4 p (by omega)]; exact r0_7
  have r1_8 : Q4 p 1 = some (p + 11) := by rw [c4 p (by omega)]; exact r1_7
  have r2_8 : Q4 p 2 = some (p + 12) := by rw [c4 p (by omega)]; exact r2_7
  have rg_8 : ∀ f, f < 9 → Q4 (p + 1) f = some (p + (2 + f)) := fun f h => by rw [c4 (p + 1) (by omega)]; exact rg_7 f h
  refine zW.cputr (m := 14) rfl (zkt hp (o := 0) (by decide) rfl) rfl rfl ?_
  have F9 : ∀ a, a < p → (zup Q4 p 3 (some (p + 13))) a = R a := fun a h => by rw [zupO_ne (by omega)]; exact F8 a h
  have r0_9 : (zup Q4 p 3 (some (p + 13))) p 0 = some (p + 1) := by rw [zupO_eq, if_neg (by decide)]; exact r0_8
  have r1_9 : (zup Q4 p 3 (some (p + 13))) p 1 = some (p + 11) := by rw [zupO_eq, if_neg (by decide)]; exact r1_8
  have r2_9 : (zup Q4 p 3 (some (p + 13))) p 2 = some (p + 12) := by rw [zupO_eq, if_neg (by decide)]; exact r2_8
  have rg_9 : ∀ f, f < 9 → (zup Q4 p 3 (some (p + 13))) (p + 1) f = some (p + (2 + f)) := fun f h => by rw [zupO_ne (by omega)]; exact rg_8 f h
  have r3_9 : (zup Q4 p 3 (some (p + 13))) p 3 = some (p + 13) := by rw [zupO_eq]; rfl
  refine zW.run 1 (pc' := 43) (ls' := [some (.ref p), none]) (st' := [.ref p]) (σ' := (zCn K0 14 t4 (zup Q4 p 3 (some (p + 13))) H4 (nc + 1 + 9 + 1 + 1 + 1) (ns + 14 + 1296 + 16 + 12 + 6))) (fun n => rfl) ?_
  refine zW.cnew (m := 14) hp rfl rfl rfl (fun t5 Q5 H5 a5 b5 c5 => ?_)
  refine zW.run 1 (pc' := 47) (ls' := [some (.ref p), none]) (st' := [.ref (p + 14), .ref (p + 14), .ref p]) (σ' := (zCn K0 15 t5 Q5 H5 (nc + 1 + 9 + 1 + 1 + 1 + 1) (ns + 14 + 1296 + 16 + 12 + 6 + 11))) (fun n => rfl) ?_
  refine zW.callI rfl (by decide) rfl rfl rfl rfl (zkt hp (o := 14) (m := 15) (by decide) rfl) (Nat.le_of_ble_eq_true rfl) ?_
  refine c_Side (m := 14) hp rfl ?_
  show zW ro 125 50 [some (.ref p), none] [.ref (p + 14), .ref p] (zCn K0 15 (zup t5 (p + 14) 3 60) Q5 H5 (nc + 1 + 9 + 1 + 1 + 1 + 1) (ns + 14 + 1296 + 16 + 12 + 6 + 11)) Q
  have S6 : zSm p s 15 0 (zup t5 (p + 14) 3 60) := S5.go (by decide) (fun a f ha => by rw [zup_n1 (by omega)]; exact a5 a f (by omega)) (fun o f h1 h2 => by rw [show o = 14 by omega, zup_e1, b5 f]; rfl)
  have F10 : ∀ a, a < p → Q5 a = R a := fun a h => by rw [c5 a (by omega)]; exact F9 a h
  have r0_10 : Q5 p 0 = some (p + 1) := by rw [c5 p (by omega)]; exact r0_9
  have r1_10 : Q5 p 1 = some (p + 11) := by rw [c5 p (by omega)]; exact r1_9
  have r2_10 : Q5 p 2 = some (p + 12) := by rw [c5 p (by omega)]; exact r2_9
  have r3_10 : Q5 p 3 = some (p + 13) := by rw [c5 p (by omega)]; exact r3_9
  have rg_10 : ∀ f, f < 9 → Q5 (p + 1) f = some (p + (2 + f)) := fun f h => by rw [c5 (p + 1) (by omega)]; exact rg_9 f h
  refine zW.cputr (m := 15) rfl (zkt hp (o := 0) (by decide) rfl) rfl rfl ?_
  have F11 : ∀ a, a < p → (zup Q5 p 4 (some (p + 14))) a = R a := fun a h => by rw [zupO_ne (by omega)]; exact F10 a h
  have r0_11 : (zup Q5 p 4 (some (p + 14))) p 0 = some (p + 1) := by rw [zupO_eq, if_neg (by decide)]; exact r0_10
  have r1_11 : (zup Q5 p 4 (some (p + 14))) p 1 = some (p + 11) := by rw [zupO_eq, if_neg (by decide)]; exact r1_10
  have r2_11 : (zup Q5 p 4 (some (p + 14))) p 2 = some (p + 12) := by rw [zupO_eq, if_neg (by decide)]; exact r2_10
  have r3_11 : (zup Q5 p 4 (some (p + 14))) p 3 = some (p + 13) := by rw [zupO_eq, if_neg (by decide)]; exact r3_10
  have rg_11 : ∀ f, f < 9 → (zup Q5 p 4 (some (p + 14))) (p + 1) f = some (p + (2 + f)) := fun f h => by rw [zupO_ne (by omega)]; exact rg_10 f h
  have r4_11 : (zup Q5 p 4 (some (p + 14))) p 4 = some (p + 14) := by rw [zupO_eq]; rfl
  refine zW.run 1 (pc' := 54) (ls' := [some (.ref p), none]) (st' := [.ref p]) (σ' := (zCn K0 15 (zup t5 (p + 14) 3 60) (zup Q5 p 4 (some (p + 14))) H5 (nc + 1 + 9 + 1 + 1 + 1 + 1) (ns + 14 + 1296 + 16 + 12 + 6 + 11))) (fun n => rfl) ?_
  refine zW.cnew (m := 15) hp rfl rfl rfl (fun t6 Q6 H6 a6 b6 c6 => ?_)
  refine zW.run 1 (pc' := 58) (ls' := [some (.ref p), none]) (st' := [.ref (p + 15), .ref (p + 15), .ref p]) (σ' := (zCn K0 16 t6 Q6 H6 (nc + 1 + 9 + 1 + 1 + 1 + 1 + 1) (ns + 14 + 1296 + 16 + 12 + 6 + 11 + 11))) (fun n => rfl) ?_
  refine zW.callI rfl (by decide) rfl rfl rfl rfl (zkt hp (o := 15) (m := 16) (by decide) rfl) (Nat.le_of_ble_eq_true rfl) ?_
  refine c_Side (m := 15) hp rfl ?_
  show zW ro 125 61 [some (.ref p), none] [.ref (p + 15), .ref p] (zCn K0 16 (zup t6 (p + 15) 3 60) Q6 H6 (nc + 1 + 9 + 1 + 1 + 1 + 1 + 1) (ns + 14 + 1296 + 16 + 12 + 6 + 11 + 11)) Q
  have S7 : zSm p s 16 0 (zup t6 (p + 15) 3 60) := S6.go (by decide) (fun a f ha => by rw [zup_n1 (by omega)]; exact a6 a f (by omega)) (fun o f h1 h2 => by rw [show o = 15 by omega, zup_e1, b6 f]; rfl)
  have F12 : ∀ a, a < p → Q6 a = R a := fun a h => by rw [c6 a (by omega)]; exact F11 a h
  have r0_12 : Q6 p 0 = some (p + 1) := by rw [c6 p (by omega)]; exact r0_11
  have r1_12 : Q6 p 1 = some (p + 11) := by rw [c6 p (by omega)]; exact r1_11
  have r2_12 : Q6 p 2 = some (p + 12) := by rw [c6 p (by omega)]; exact r2_11
  have r3_12 : Q6 p 3 = some (p + 13) := by rw [c6 p (by omega)]; exact r3_11
  have r4_12 : Q6 p 4 = some (p + 14) := by rw [c6 p (by omega)]; exact r4_11
  have rg_12 : ∀ f, f < 9 → Q6 (p + 1) f = some (p + (2 + f)) := fun f h => by rw [c6 (p + 1) (by omega)]; exact rg_11 f h
  refine zW.cputr (m := 16) rfl (zkt hp (o := 0) (by decide) rfl) rfl rfl ?_
  have F13 : ∀ a, a < p → (zup Q6 p 5 (some (p + 15))) a = R a := fun a h => by rw [zupO_ne (by omega)]; exact F12 a h
  have r0_13 : (zup Q6 p 5 (some (p + 15))) p 0 = some (p + 1) := by rw [zupO_eq, if_neg (by decide)]; exact r0_12
  have r1_13 : (zup Q6 p 5 (some (p + 15))) p 1 = some (p + 11) := by rw [zupO_eq, if_neg (by decide)]; exact r1_12
  have r2_13 : (zup Q6 p 5 (some (p + 15))) p 2 = some (p + 12) := by rw [zupO_eq, if_neg (by decide)]; exact r2_12
  have r3_13 : (zup Q6 p 5 (some (p + 15))) p 3 = some (p + 13) := by rw [zupO_eq, if_neg (by decide)]; exact r3_12
  have r4_13 : (zup Q6 p 5 (some (p + 15))) p 4 = some (p + 14) := by rw [zupO_eq, if_neg (by decide)]; exact r4_12
  have rg_13 : ∀ f, f < 9 → (zup Q6 p 5 (some (p + 15))) (p + 1) f = some (p + (2 + f)) := fun f h => by rw [zupO_ne (by omega)]; exact rg_12 f h
  have r5_13 : (zup Q6 p 5 (some (p + 15))) p 5 = some (p + 15) := by rw [zupO_eq]; rfl
  refine zW.run 1 (pc' := 65) (ls' := [some (.ref p), none]) (st' := [.ref p]) (σ' := (zCn K0 16 (zup t6 (p + 15) 3 60) (zup Q6 p 5 (some (p + 15))) H6 (nc + 1 + 9 + 1 + 1 + 1 + 1 + 1) (ns + 14 + 1296 + 16 + 12 + 6 + 11 + 11))) (fun n => rfl) ?_
  refine zW.cnew (m := 16) hp rfl rfl rfl (fun t7 Q7 H7 a7 b7 c7 => ?_)
  refine zW.run 1 (pc' := 69) (ls' := [some (.ref p), none]) (st' := [.ref (p + 16), .ref (p + 16), .ref p]) (σ' := (zCn K0 17 t7 Q7 H7 (nc + 1 + 9 + 1 + 1 + 1 + 1 + 1 + 1) (ns + 14 + 1296 + 16 + 12 + 6 + 11 + 11 + 7))) (fun n => rfl) ?_
  refine zW.callI rfl (by decide) rfl rfl rfl rfl (zkt hp (o := 16) (m := 17) (by decide) rfl) (Nat.le_of_ble_eq_true rfl) ?_
  refine c_Post (m := 16) hp rfl rfl rfl (fun k1 Rk Gk ka kb kc kd ke kf kg => ?_)
  show zW ro 125 72 [some (.ref p), none] [.ref (p + 16), .ref p] (zCn K0 19 k1 Rk Gk (nc + 1 + 9 + 1 + 1 + 1 + 1 + 1 + 1 + 1 + 1) (ns + 14 + 1296 + 16 + 12 + 6 + 11 + 11 + 7 + 6 + 6)) Q
  have S8 : zSm p s 19 0 k1 := S7.go (by decide) (fun a f ha => (ka a f (by omega) (by omega) (by omega)).trans (a7 a f (by omega))) (fun o f h1 h2 => by
    by_cases e : o = 16
    · rw [e, kb f, b7 f]; rfl
    · by_cases e2 : o = 17
      · rw [e2, kc f]; rfl
      · rw [show o = 18 by omega, kd f]; rfl)
  have F14 : ∀ a, a < p → Rk a = R a := fun a h => by rw [ke a (by omega) (by omega) (by omega), c7 a (by omega)]; exact F13 a h
  have r0_14 : Rk p 0 = some (p + 1) := by rw [ke p (by omega) (by omega) (by omega), c7 p (by omega)]; exact r0_13
  have r1_14 : Rk p 1 = some (p + 11) := by rw [ke p (by omega) (by omega) (by omega), c7 p (by omega)]; exact r1_13
  have r2_14 : Rk p 2 = some (p + 12) := by rw [ke p (by omega) (by omega) (by omega), c7 p (by omega)]; exact r2_13
  have r3_14 : Rk p 3 = some (p + 13) := by rw [ke p (by omega) (by omega) (by omega), c7 p (by omega)]; exact r3_13
  have r4_14 : Rk p 4 = some (p + 14) := by rw [ke p (by omega) (by omega) (by omega), c7 p (by omega)]; exact r4_13
  have r5_14 : Rk p 5 = some (p + 15) := by rw [ke p (by omega) (by omega) (by omega), c7 p (by omega)]; exact r5_13
  have rg_14 : ∀ f, f < 9 → Rk (p + 1) f = some (p + (2 + f)) := fun f h => by rw [ke (p + 1) (by omega) (by omega) (by omega), c7 (p + 1) (by omega)]; exact rg_13 f h
  have rp_14 : Rk (p + 16) 0 = some (p + 17) := kf
  have rq_14 : Rk (p + 16) 1 = some (p + 18) := kg
  refine zW.cputr (m := 19) rfl (zkt hp (o := 0) (by decide) rfl) rfl rfl ?_
  have F15 : ∀ a, a < p → (zup Rk p 6 (some (p + 16))) a = R a := fun a h => by rw [zupO_ne (by omega)]; exact F14 a h
  have r0_15 : (zup Rk p 6 (some (p + 16))) p 0 = some (p + 1) := by rw [zupO_eq, if_neg (by decide)]; exact r0_14
  have r1_15 : (zup Rk p 6 (some (p + 16))) p 1 = some (p + 11) := by rw [zupO_eq, if_neg (by decide)]; exact r1_14
  have r2_15 : (zup Rk p 6 (some (p + 16))) p 2 = some (p + 12) := by rw [zupO_eq, if_neg (by decide)]; exact r2_14
  have r3_15 : (zup Rk p 6 (some (p + 16))) p 3 = some (p + 13) := by rw [zupO_eq, if_neg (by decide)]; exact r3_14
  have r4_15 : (zup Rk p 6 (some (p + 16))) p 4 = some (p + 14) := by rw [zupO_eq, if_neg (by decide)]; exact r4_14
  have r5_15 : (zup Rk p 6 (some (p + 16))) p 5 = some (p + 15) := by rw [zupO_eq, if_neg (by decide)]; exact r5_14
  have rg_15 : ∀ f, f < 9 → (zup Rk p 6 (some (p + 16))) (p + 1) f = some (p + (2 + f)) := fun f h => by rw [zupO_ne (by omega)]; exact rg_14 f h
  have rp_15 : (zup Rk p 6 (some (p + 16))) (p + 16) 0 = some (p + 17) := by rw [zupO_ne (by omega)]; exact rp_14
  have rq_15 : (zup Rk p 6 (some (p + 16))) (p + 16) 1 = some (p + 18) := by rw [zupO_ne (by omega)]; exact rq_14
  have r6_15 : (zup Rk p 6 (some (p + 16))) p 6 = some (p + 16) := by rw [zupO_eq]; rfl
  refine zW.run 2 (pc' := 77) (ls' := [some (.ref p), none]) (st' := [.int (Int32.ofInt (-1)), .ref p]) (σ' := (zCn K0 19 k1 (zup Rk p 6 (some (p + 16))) Gk (nc + 1 + 9 + 1 + 1 + 1 + 1 + 1 + 1 + 1 + 1) (ns + 14 + 1296 + 16 + 12 + 6 + 11 + 11 + 7 + 6 + 6))) (fun n => rfl) ?_
  refine zW.cput (m := 19) rfl (zkt hp (o := 0) (by decide) rfl) rfl ?_
  refine zW.run 2 (pc' := 82) (ls' := [some (.ref p), some (.int (Int32.ofInt ((0 : Nat) : Int)))]) (st' := []) (σ' := (zCn K0 (19 + 0) (zup k1 p 12 (-1)) (zup Rk p 6 (some (p + 16))) Gk (nc + 1 + 9 + 1 + 1 + 1 + 1 + 1 + 1 + 1 + 1) (ns + 14 + 1296 + 16 + 12 + 6 + 11 + 11 + 7 + 6 + 6))) (fun n => rfl) ?_
  exact Lg _ 0 (Nat.lt_succ_self _) (by omega) _ _ _ _ _ (S8.hon (by decide)) ⟨F15, r0_15, r1_15, r2_15, r3_15, r4_15, r5_15, r6_15, rp_15, rq_15, rg_15⟩ (fun j hj => absurd hj (Nat.not_lt_zero j)) (by omega) (by omega)
end ZCN
