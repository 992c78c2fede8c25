/-! a new array of two -/
section ZLW
variable {y pc r1 r2 r3 x : Nat} {tg : List Nat} {ls : zLs} {st rest : List Value} {Q : zO → zS → Prop} {L : Nat} {X : zK} {s : zJ} {R : Nat → Nat → Option Nat} {G : Nat → Nat → Int64} {nc ns : Nat} {g : Nat → Int} {U F T B ph : Int} {ro : Nat → Int32 → zS → Option (zO × zS)}
theorem zW.jnew3 {g8 : Int} {ty : ArrayType} (S : zSR R) (V : zV g U F T B ph s) (he : zlk (zmC (zP y)) pc = some (.newarray ty, 100, r2, r3, tg)) (hg : g 8 ≤ 125 + (X.length : Int)) (k : ∀ (P : Nat) (X2 : zK) (s2 : zJ) (R2 : Nat → Nat → Option Nat) (G2 : Nat → Nat → Int64), zSR R2 → zV g U F T B ph s2 → P = 125 + X.length → (∀ p f, p ≠ P → s2 p f = s p f) → s2 P 0 = 0 → s2 P 1 = 0 → (zK0 L ++ X2)[P]? = some (100, 2) → X2 = X ++ [(100, 2)] → 66 ≤ P ∧ g 8 ≤ P → (∀ p, p ≠ P → R2 p = R p) → (∀ p, p ≠ P → G2 p = G p) → zW ro y (pc + 2) ls (.ref P :: rest) (zN L X2 (zhi s2) R2 G2 (nc + 1) (ns + 2)) Q) : zW ro y pc ls (.int (Int32.ofInt 2) :: rest) (zN L X (zhi s) R G nc ns) Q := by
  have hlen : (zK0 L ++ X).length = 125 + X.length := by rw [List.length_append, zK0_len]
  have hh : zupR (zhi s) (125 + X.length) (fun _ => 0) = zhi (zupR s (125 + X.length) (fun _ => 0)) := by
    funext a j
    show (if a = 125 + X.length then fun _ => (0 : Int32) else zhi s a) j = Int32.ofInt ((if a = 125 + X.length then fun _ => (0 : Int) else s a) j)
    by_cases c : a = 125 + X.length
    · rw [if_pos c, if_pos c]; rfl
    · rw [if_neg c, if_neg c]; rfl
  have hk2 : (zK0 L ++ (X ++ [(100, 2)]))[125 + X.length]? = some (100, 2) := by
    rw [← List.append_assoc, List.getElem?_append_right (by rw [hlen]; exact Nat.le_refl _), hlen, Nat.sub_self]
    rfl
  have hs : ∀ p f, p ≠ 125 + X.length → zupR s (125 + X.length) (fun _ => 0) p f = s p f := fun p f hp => by
    unfold zupR
    rw [if_neg hp]
  have hs0 : ∀ f, zupR s (125 + X.length) (fun _ => 0) (125 + X.length) f = 0 := fun f => by
    unfold zupR
    rw [if_pos rfl]
  refine zW.go he (fun rec => ?_) (k (125 + X.length) (X ++ [(100, 2)]) (zupR s (125 + X.length) (fun _ => 0)) (zupR R (125 + X.length) (fun _ => none)) (zupR G (125 + X.length) (fun _ => 0)) (zSR_far (P := 0) S (fun p hp => if_neg (by omega))) (zV_far V hs (by omega) (by omega)) rfl hs (hs0 0) (hs0 1) hk2 rfl ⟨by omega, by omega⟩ (fun p hp => if_neg hp) (fun p hp => if_neg hp))
  show (if Int32.ofInt 2 < 0 then none else if (Int32.ofInt 2).toNatClampNeg ≤ 100000 then rec y (pc + 2) ls (.ref (zK0 L ++ X).length :: rest) (znw (zN L X (zhi s) R G nc ns) 100 (Int32.ofInt 2).toNatClampNeg) else none) = _
  rw [if_neg (by decide), if_pos (by decide)]
  unfold znw
  dsimp only
  rw [hlen, hh, List.append_assoc]
  rfl
end ZLW
