/-! the law's siege as it begins -/
def zgS (w h c : Int) (s : zJ) : Nat → Int := fun i => if i = 0 then w else if i = 1 then h else if i = 2 then c else if i = 3 then 6 * w + 6 else if i = 4 then zmm s 0 12 else if i = 5 then zmm s 1 12 else if i = 6 then zcn s 1 c.toNat else if i = 7 then s 7 14 else 66
theorem zmm_b {s : zJ} {d : Int} (h : ∀ i : Nat, i < 12 → 0 ≤ s (42 + i) 2 ∧ s (42 + i) 2 ≤ 200) : ∀ n : Nat, n ≤ 12 → 0 ≤ zmm s d n ∧ zmm s d n ≤ 200 * n
  | 0, _ => ⟨Int.le_refl 0, Int.le_refl 0⟩
  | n + 1, hn => by
    have q := zmm_b (d := d) h n (by omega)
    have q2 := h n (by omega)
    rw [zmm_s]
    omega
set_option maxHeartbeats 4000000 in
theorem zV_start {w h c : Int} {sF s2 s3 : zJ} (hf : ∀ o f, 0 < o → o < 59 → sF (7 + o) f = zIv o f) (h7 : ∀ f, sF 7 f = if f = 12 then -1 else 0) (hr : ∀ p k : Nat, p < 5 → k < 6 → 0 ≤ sF p k ∧ sF p k ≤ 12) (hw : 8 ≤ w ∧ w ≤ 12) (hh : 8 ≤ h ∧ h ≤ 12) (hc : w * h = c) (L : zLO w h c sF s2) (M : zMv c s2 s3) : let s4 : zJ := zup (zup (zup s3 7 11 1) 21 10 (s3 21 0)) 22 10 (s3 22 0); zV (zgS w h c s4) (zmm s4 0 12 + zmm s4 1 12) 0 0 1000 1 s4 ∧ (0 ≤ zmm s4 0 12 ∧ zmm s4 0 12 ≤ 2400) ∧ (0 ≤ zmm s4 1 12 ∧ zmm s4 1 12 ≤ 2400) ∧ (0 ≤ s4 7 14 ∧ s4 7 14 ≤ 1000) := by
  intro s4
  obtain ⟨sm, a, b, e, Mu, ha, hb, es3⟩ := M
  have hcw := zwh hw hh
  rw [hc] at hcw
  -- what stays
  have k4 : ∀ p f, ¬ (p = 7 ∧ f = 11) → ¬ (p = 21 ∧ f = 10) → ¬ (p = 22 ∧ f = 10) → s4 p f = s3 p f := fun p f h1 h2 h3 => by
    show (zup (zup (zup s3 7 11 1) 21 10 (s3 21 0)) 22 10 (s3 22 0)) p f = _
    rw [zup_nj h3, zup_nj h2, zup_nj h1]
  have k3 : ∀ p f, ¬ (p = 7 ∧ (f = 14 ∨ f = 15)) → ¬ (p = 23 ∧ f = 4) → s3 p f = sm p f := fun p f h1 h2 => by
    rw [es3, zup_nj h2, zup_nj (fun q => h1 ⟨q.1, Or.inr q.2⟩), zup_nj (fun q => h1 ⟨q.1, Or.inl q.2⟩)]
  have k43 : ∀ p f, p ≠ 7 → p ≠ 21 → p ≠ 22 → p ≠ 23 → s4 p f = sm p f := fun p f h1 h2 h3 h5 => (k4 p f (by omega) (by omega) (by omega)).trans (k3 p f (by omega) (by omega))
  have km := Mu.2.2.2.2
  have kl := L.2.2.2.2
  have kall : ∀ p f, ¬ (26 ≤ p ∧ p < 54 ∧ f ≤ 2) → p ≠ 7 → p ≠ 21 → p ≠ 22 → p ≠ 23 → ¬ (8 ≤ p ∧ p ≤ 15) → s4 p f = sF p f := fun p f h1 h2 h3 h5 h6 h9 => (k43 p f h2 h3 h5 h6).trans ((km p f h1 (by omega) (by omega)).trans (kl p f h9))
  have kg : ∀ p f, 8 ≤ p → p ≤ 15 → s4 p f = s2 p f := fun p f h1 h2 => (k43 p f (by omega) (by omega) (by omega) (by omega)).trans (km p f (by omega) (by omega) (by omega))
  -- the siege's own fields
  have k7 : ∀ f, f ≠ 7 → f ≠ 8 → f ≠ 11 → f ≠ 14 → f ≠ 15 → s4 7 f = if f = 12 then -1 else 0 := fun f h1 h2 h3 h5 h6 => ((k4 7 f (by omega) (by omega) (by omega)).trans ((k3 7 f (by omega) (by omega)).trans ((km 7 f (by omega) (by omega) (by omega)).trans (kl 7 f (by omega))))).trans (h7 f)
  have k77 : s4 7 7 = 6 := ((k4 7 7 (by omega) (by omega) (by omega)).trans (k3 7 7 (by omega) (by omega))).trans Mu.1.2
  have k78 : s4 7 8 = 8 := ((k4 7 8 (by omega) (by omega) (by omega)).trans (k3 7 8 (by omega) (by omega))).trans Mu.1.1
  have k711 : s4 7 11 = 1 := by
    show (zup (zup (zup s3 7 11 1) 21 10 (s3 21 0)) 22 10 (s3 22 0)) 7 11 = _
    rw [zup_nj (by omega), zup_nj (by omega), zup_ej]
  have k714 : s4 7 14 = a := (k4 7 14 (by omega) (by omega) (by omega)).trans (by rw [es3, zup_nj (by omega), zup_nj (by omega), zup_ej])
  have k715 : s4 7 15 = b := (k4 7 15 (by omega) (by omega) (by omega)).trans (by rw [es3, zup_nj (by omega), zup_ej])
  -- the sides
  have ks : ∀ o f : Nat, o = 21 ∨ o = 22 → f ≠ 10 → s4 o f = sm o f := fun o f ho h1 => (k4 o f (by omega) (by omega) (by omega)).trans (k3 o f (by omega) (by omega))
  have ks0 : ∀ o f : Nat, o = 21 ∨ o = 22 → 2 < f → f ≠ 10 → s4 o f = if f = 3 then 60 else 0 := fun o f ho h1 h2 => by
    rw [ks o f ho h2, km o f (by omega) (by omega) (by omega), kl o f (by omega)]
    rcases ho with ho | ho <;> subst ho
    · exact (hf 14 f (by decide) (by decide)).trans (by unfold zIv; rfl)
    · exact (hf 15 f (by decide) (by decide)).trans (by unfold zIv; rfl)
  have k2110 : s4 21 10 = s4 21 0 := by
    have e1 : s4 21 10 = s3 21 0 := by
      show (zup (zup (zup s3 7 11 1) 21 10 (s3 21 0)) 22 10 (s3 22 0)) 21 10 = _
      rw [zup_nj (by omega), zup_ej]
    rw [e1, k4 21 0 (by omega) (by omega) (by omega)]
  have k2210 : s4 22 10 = s4 22 0 := by
    have e1 : s4 22 10 = s3 22 0 := by
      show (zup (zup (zup s3 7 11 1) 21 10 (s3 21 0)) 22 10 (s3 22 0)) 22 10 = _
      rw [zup_ej]
    rw [e1, k4 22 0 (by omega) (by omega) (by omega)]
  -- guns, companies, mines
  have kgu : ∀ i f : Nat, i < 16 → s4 (26 + i) f = sm (26 + i) f := fun i f hi => k43 _ f (by omega) (by omega) (by omega) (by omega)
  have kgf : ∀ i f : Nat, i < 16 → 2 < f → s4 (26 + i) f = if f = 6 then -1 else 0 := fun i f hi h1 => by
    rw [kall _ f (by omega) (by omega) (by omega) (by omega) (by omega) (by omega), show 26 + i = 7 + (19 + i) by omega, hf _ f (by omega) (by omega), zIv_g (by omega)]
    omega
  have kcf : ∀ i f : Nat, i < 12 → 2 < f → s4 (42 + i) f = if f = 5 then -1 else 0 := fun i f hi h1 => by
    rw [kall _ f (by omega) (by omega) (by omega) (by omega) (by omega) (by omega), show 42 + i = 7 + (35 + i) by omega, hf _ f (by omega) (by omega), zIv_c (by omega)]
    omega
  have kco : ∀ i f : Nat, i < 12 → s4 (42 + i) f = sm (42 + i) f := fun i f hi => k43 _ f (by omega) (by omega) (by omega) (by omega)
  have kmf : ∀ i f : Nat, i < 6 → s4 (54 + 2 * i) f = if f = 1 then -1 else 0 := fun i f hi => by
    rw [kall _ f (by omega) (by omega) (by omega) (by omega) (by omega) (by omega), show 54 + 2 * i = 7 + (47 + 2 * i) by omega, hf _ f (by omega) (by omega), zIv_m (by omega)]
  have kmr : ∀ i f : Nat, i < 6 → s4 (55 + 2 * i) f = 0 := fun i f hi => by
    rw [kall _ f (by omega) (by omega) (by omega) (by omega) (by omega) (by omega), show 55 + 2 * i = 7 + (48 + 2 * i) by omega, hf _ f (by omega) (by omega), zIv_r (by omega)]
  have kc3 : ∀ i : Nat, i < 12 → s4 (42 + i) 3 = 0 ∧ s4 (42 + i) 4 = 0 ∧ s4 (42 + i) 5 = -1 := fun i hi => ⟨(kcf i 3 hi (by decide)).trans rfl, (kcf i 4 hi (by decide)).trans rfl, (kcf i 5 hi (by decide)).trans rfl⟩
  have kg3 : ∀ i : Nat, i < 16 → s4 (26 + i) 3 = 0 ∧ s4 (26 + i) 4 = 0 ∧ s4 (26 + i) 5 = 0 ∧ s4 (26 + i) 6 = -1 := fun i hi => ⟨(kgf i 3 hi (by decide)).trans rfl, (kgf i 4 hi (by decide)).trans rfl, (kgf i 5 hi (by decide)).trans rfl, (kgf i 6 hi (by decide)).trans rfl⟩
  have km3 : ∀ i : Nat, i < 6 → s4 (54 + 2 * i) 1 = -1 ∧ s4 (54 + 2 * i) 2 = 0 ∧ s4 (54 + 2 * i) 4 = 0 ∧ s4 (54 + 2 * i) 6 = 0 := fun i hi => ⟨(kmf i 1 hi).trans rfl, (kmf i 2 hi).trans rfl, (kmf i 4 hi).trans rfl, (kmf i 6 hi).trans rfl⟩
  have km7 : s4 7 9 = 0 := (k7 9 (by decide) (by decide) (by decide) (by decide) (by decide)).trans rfl
  have hm : ∀ i : Nat, i < 12 → 0 ≤ s4 (42 + i) 2 ∧ s4 (42 + i) 2 ≤ 200 := fun i hi => by
    rw [kco i 2 hi]
    have q := Mu.2.1 i hi
    by_cases c8 : i < 8
    · have q1 := q.1 c8; omega
    · have q1 := q.2 (by omega); omega
  have hz6 : zcn s4 6 c.toNat = 0 := zsm_0 _ (fun j hj => if_neg (by
    rw [kg 11 j (by decide) (by decide)]
    have q := L.2.1 j
    omega))
  have hmc : ∀ d : Int, d = 0 ∨ d = 1 → zmc s4 d 6 = 0 := fun d hd => zsm_0 6 (fun j hj => if_neg (by
    have q := km3 j hj
    omega))
  have hs7 : ∀ o : Nat, o = 21 ∨ o = 22 → s4 o 3 = 60 ∧ s4 o 6 = 0 ∧ s4 o 7 = 0 ∧ s4 o 9 = 0 := fun o ho => ⟨(ks0 o 3 ho (by decide) (by decide)).trans rfl, (ks0 o 6 ho (by decide) (by decide)).trans rfl, (ks0 o 7 ho (by decide) (by decide)).trans rfl, (ks0 o 9 ho (by decide) (by decide)).trans rfl⟩
  have hs2 : ∀ o : Nat, o = 21 ∨ o = 22 → (0 ≤ s4 o 0 ∧ s4 o 0 ≤ 1000) ∧ (0 ≤ s4 o 1 ∧ s4 o 1 ≤ 1000) ∧ (0 ≤ s4 o 2 ∧ s4 o 2 ≤ 1000) := fun o ho => by
    rw [ks o 0 ho (by decide), ks o 1 ho (by decide), ks o 2 ho (by decide)]
    exact Mu.2.2.2.1 o ho
  have hA := (zA_of (t := 6 * w + 6) (s := s4) hw hh hc (by omega) ⟨(kg 8 9 (by decide) (by decide)).trans L.1.1, (kg 8 10 (by decide) (by decide)).trans L.1.2.1, (kg 8 11 (by decide) (by decide)).trans L.1.2.2.1, (kg 8 12 (by decide) (by decide)).trans L.1.2.2.2.1, (kg 8 13 (by decide) (by decide)).trans L.1.2.2.2.2⟩ (fun j hj => by
    rw [kg 14 j (by decide) (by decide), kg 15 j (by decide) (by decide)]
    exact L.2.2.2.1 j hj) (fun p k hp hk => by
    rw [kall p k (by omega) (by omega) (by omega) (by omega) (by omega) (by omega)]
    exact hr p k hp hk)).1
  have hb0 := zmm_b (d := 0) hm 12 (by decide)
  have hb1 := zmm_b (d := 1) hm 12 (by decide)
  refine ⟨⟨hA, fun k hk => ?_, ⟨fun k hk h1 => ?_, ?_, ?_⟩, ?_, fun i hi => ?_, fun i hi => ?_, fun i hi => ?_, fun i hi => ?_, fun i hi => ?_, ⟨?_, fun i hi => ?_⟩, fun o ho => ?_, ?_, ?_, ?_, fun p h1 h2 => ?_⟩, ⟨hb0.1, by omega⟩, ⟨hb1.1, by omega⟩, by rw [k714]; omega⟩
  · rw [kg 9 k (by decide) (by decide), kg 10 k (by decide) (by decide), kg 11 k (by decide) (by decide), kg 12 k (by decide) (by decide), kg 13 k (by decide) (by decide)]
    have q := L.2.1 k
    omega
  · rw [kg 11 k (by decide) (by decide)] at h1
    rw [kg 12 k (by decide) (by decide)]
    exact (L.2.1 k).2.2.2.2.2 h1
  · exact (kg 11 0 (by decide) (by decide)).trans L.2.2.1.1
  · exact (kg 11 _ (by decide) (by decide)).trans L.2.2.1.2
  · show zcn s4 1 c.toNat + zcn s4 6 c.toNat ≤ zcn s4 1 c.toNat ∧ zcn s4 1 c.toNat ≤ zcn s4 1 c.toNat + s4 7 13 ∧ 0 ≤ s4 7 13 ∧ s4 7 13 ≤ 1000 ∧ (0 : Int) ≤ 0
    rw [hz6, k7 13 (by decide) (by decide) (by decide) (by decide) (by decide)]
    have e9 : (if (13 : Nat) = 12 then (-1 : Int) else 0) = 0 := rfl
    omega
  · have q3 := kg3 i hi
    have q := Mu.2.2.1 i hi
    rw [kgu i 0 hi, kgu i 1 hi, kgu i 2 hi]
    show (-1 ≤ sm (26 + i) 0 ∧ sm (26 + i) 0 ≤ 1) ∧ (-1 ≤ sm (26 + i) 1 ∧ sm (26 + i) 1 < c) ∧ _ ∧ _ ∧ _ ∧ _ ∧ (-1 ≤ s4 (26 + i) 6 ∧ s4 (26 + i) 6 < c)
    by_cases c6 : i < 6
    · have q1 := q.1 c6
      omega
    · have q1 := q.2 (by omega)
      omega
  · have q3 := kg3 i hi
    have q := Mu.2.2.1 i hi
    rw [kgu i 0 hi, kgu i 1 hi, kgu i 2 hi]
    by_cases c6 : i < 6
    · have q1 := q.1 c6
      omega
    · have q1 := q.2 (by omega)
      omega
  · have q3 := kc3 i hi
    have q := Mu.2.1 i hi
    have q2 := hm i hi
    show (-1 ≤ s4 (42 + i) 0 ∧ s4 (42 + i) 0 ≤ 1) ∧ (-1 ≤ s4 (42 + i) 1 ∧ s4 (42 + i) 1 < c) ∧ _ ∧ _ ∧ _ ∧ (-1 ≤ s4 (42 + i) 5 ∧ s4 (42 + i) 5 < c)
    rw [kco i 0 hi, kco i 1 hi]
    by_cases c8 : i < 8
    · have q1 := q.1 c8
      omega
    · have q1 := q.2 (by omega)
      omega
  · have q3 := kc3 i hi
    have q := Mu.2.1 i hi
    rw [kco i 0 hi, kco i 1 hi, kco i 2 hi]
    by_cases c8 : i < 8
    · have q1 := q.1 c8
      omega
    · have q1 := q.2 (by omega)
      omega
  · have q := km3 i hi
    refine ⟨by omega, by omega, by omega, fun j hj => ?_⟩
    rw [kmr i j hi]
    show (-1 : Int) ≤ 0 ∧ (0 : Int) < c
    omega
  · rw [km7]; omega
  · have q := km3 i hi
    rw [km7]
    omega
  · have q1 := hs7 o ho
    have q2 := hs2 o ho
    omega
  · unfold zP1
    have q1 := hs7 21 (Or.inl rfl)
    have q2 := hs7 22 (Or.inr rfl)
    rw [hmc 0 (Or.inl rfl), hmc 1 (Or.inr rfl)]
    omega
  · have q1 := hs7 21 (Or.inl rfl)
    have q2 := hs7 22 (Or.inr rfl)
    show zmm s4 0 12 + s4 21 7 + s4 21 9 = zmm s4 0 12 ∧ zmm s4 1 12 + s4 22 7 + s4 22 9 = zmm s4 1 12 ∧ zmm s4 0 12 + zmm s4 1 12 ≤ zmm s4 0 12 + zmm s4 1 12
    omega
  · have q10 : s4 7 10 = 0 := (k7 10 (by decide) (by decide) (by decide) (by decide) (by decide)).trans rfl
    have q12 : s4 7 12 = -1 := (k7 12 (by decide) (by decide) (by decide) (by decide) (by decide)).trans rfl
    show (s4 7 7 = 6 ∧ s4 7 8 = 8 ∧ s4 7 10 = 0 ∧ s4 7 11 = 1 ∧ _ ∧ _ ∧ _ ∧ _ ∧ _ ∧ _ ∧ _ ∧ _ ∧ _ ∧ _ ∧ _ ∧ _) ∧ (_ → _ ∧ s4 7 14 = s4 7 14) ∧ (_ → s4 7 14 = s4 7 14 ∨ _)
    rw [k77, k78, q10, k711, q12, k714, k715]
    omega
  · exact absurd h2 (by show ¬ (p : Int) < 66; omega)
