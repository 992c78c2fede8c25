/-! runs, and the rules by which they are told -/
def zW (ro : Nat → Int32 → zS → Option (zO × zS)) (y pc : Nat) (ls : zLs) (st : List Value) (σ : zS) (Q : zO → zS → Prop) : Prop := ∃ (n : Nat) (o : zO) (σ' : zS), zx zP zFt ro n y pc ls st σ = some (o, σ') ∧ Q o σ'
/-- behind a call -/
def zKt (ro : Nat → Int32 → zS → Option (zO × zS)) (y pc : Nat) (ls : zLs) (rest : List Value) (Q : zO → zS → Prop) (o : zO) (σ1 : zS) : Prop := match o with
  | .inl v => zW ro y (pc + 3) ls (v.toList ++ rest) σ1 Q
  | .inr E => match zcat (zmH (zP y)) pc E with
    | none => Q (.inr E) σ1
    | some h => match zlk (zmC (zP y)) h with
      | some (.astore k, _) => k < ls.length ∧ zW ro y (h + 2) ((zkl ls k).set k none) [] σ1 Q
      | some (.astore_n k, _) => (k : Nat) < ls.length ∧ zW ro y (h + 1) ((zkl ls k).set k none) [] σ1 Q
      | _ => False
section ZR
variable {ro : Nat → Int32 → zS → Option (zO × zS)} {y pc r1 r2 r3 : Nat} {ls : zLs} {st rest : List Value} {σ : zS} {Q : zO → zS → Prop} {tg : List Nat}
theorem zx_at {n : Nat} {e : zI} (he : zlk (zmC (zP y)) pc = some e) : zx zP zFt ro (n + 1) y pc ls st σ = zst zP zFt ro (zx zP zFt ro n) y pc ls st σ e := by
  show (match zlk (zmC (zP y)) pc with | none => none | some e => zst zP zFt ro (zx zP zFt ro n) y pc ls st σ e) = _
  rw [he]
theorem zW.go {e : zI} {pc' : Nat} {ls' : zLs} {st' : List Value} {σ' : zS} (he : zlk (zmC (zP y)) pc = some e) (hs : ∀ rec : zR, zst zP zFt ro rec y pc ls st σ e = rec y pc' ls' st' σ') (k : zW ro y pc' ls' st' σ' Q) : zW ro y pc ls st σ Q := by
  obtain ⟨n, o, σ2, h, hq⟩ := k
  exact ⟨n + 1, o, σ2, by rw [zx_at he, hs]; exact h, hq⟩
theorem zW.end_ {e : zI} {o : zO} {σ' : zS} (he : zlk (zmC (zP y)) pc = some e) (hs : ∀ rec : zR, zst zP zFt ro rec y pc ls st σ e = some (o, σ')) (hq : Q o σ') : zW ro y pc ls st σ Q := ⟨1, o, σ', by rw [zx_at he, hs], hq⟩
theorem zW.mono {Q2 : zO → zS → Prop} (k : zW ro y pc ls st σ Q) (h : ∀ o σ', Q o σ' → Q2 o σ') : zW ro y pc ls st σ Q2 := by
  obtain ⟨n, o, σ2, h1, hq⟩ := k
  exact ⟨n, o, σ2, h1, h _ _ hq⟩
/-- many plain instructions at once -/
theorem zW.run (k : Nat) {pc' : Nat} {ls' : zLs} {st' : List Value} {σ' : zS} (h : ∀ n, zx zP zFt ro (n + k) y pc ls st σ = zx zP zFt ro n y pc' ls' st' σ') (q : zW ro y pc' ls' st' σ' Q) : zW ro y pc ls st σ Q := by
  obtain ⟨n, o, σ2, h1, hq⟩ := q
  exact ⟨n + k, o, σ2, by rw [h]; exact h1, hq⟩
theorem zback_kt {n : Nat} {o1 : zO} {σ1 : zS} (k : zKt ro y pc ls rest Q o1 σ1) : ∃ m o σ', (∀ n, m ≤ n → zback zP (zx zP zFt ro n) y pc ls rest (some (o1, σ1)) = some (o, σ')) ∧ Q o σ' := by
  have up : ∀ {m : Nat} {y pc : Nat} {ls : zLs} {st : List Value} {σ : zS} {r : zO × zS}, zx zP zFt ro m y pc ls st σ = some r → ∀ n, m ≤ n → zx zP zFt ro n y pc ls st σ = some r := fun h n hn => zx_up h hn
  cases o1 with
  | inl v =>
    obtain ⟨m, o, σ', h, hq⟩ := k
    exact ⟨m, o, σ', fun n hn => up h n hn, hq⟩
  | inr E =>
    dsimp only [zKt] at k
    cases hc : zcat (zmH (zP y)) pc E with
    | none =>
      rw [hc] at k
      exact ⟨0, .inr E, σ1, fun n _ => by dsimp only [zback]; rw [hc], k⟩
    | some h9 =>
      rw [hc] at k
      dsimp only at k
      split at k
      · rename_i kk q hl
        obtain ⟨k1, m, o, σ', h, hq⟩ := k
        exact ⟨m, o, σ', fun n hn => by dsimp only [zback]; rw [hc]; dsimp only; rw [hl]; dsimp only; rw [if_pos k1]; exact up h n hn, hq⟩
      · rename_i kk q hl
        obtain ⟨k1, m, o, σ', h, hq⟩ := k
        exact ⟨m, o, σ', fun n hn => by dsimp only [zback]; rw [hc]; dsimp only; rw [hl]; dsimp only; rw [if_pos k1]; exact up h n hn, hq⟩
      · exact k.elim
theorem zW.callS {x : Nat} {vs : List Value} (he : zlk (zmC (zP y)) pc = some (.invokestatic x, r1, r2, r3, tg)) (hd : st.drop r2 = rest) (hv : (st.take r2).reverse = vs) (hl : (st.take r2).length = r2) (hlow : zlow rest = true) (hent : (zent vs).length ≤ zmL (zP r1)) (k : zW ro r1 0 (zfst vs (zmL (zP r1))) [] σ (zKt ro y pc ls rest Q)) : zW ro y pc ls st σ Q := by
  obtain ⟨n1, o1, σ1, h1, hk⟩ := k
  obtain ⟨m, o, σ', h2, hq⟩ := zback_kt (n := 0) hk
  refine ⟨(n1 + m) + 1, o, σ', ?_, hq⟩
  rw [zx_at he]
  dsimp only [zst]
  rw [hd, hv, if_pos hlow, if_pos ⟨hl, hent⟩, zx_up h1 (Nat.le_add_right n1 m)]
  exact h2 _ (Nat.le_add_left m n1)
theorem zW.callV {x b m : Nat} {vs : List Value} (he : zlk (zmC (zP y)) pc = some (.invokevirtual x, r1, r2, r3, tg)) (h3 : r3 ≠ 2000) (hd : st.drop r2 = .ref b :: rest) (hv : (st.take r2).reverse = vs) (hl : (st.take r2).length = r2) (hlow : zlow rest = true) (hk : σ.1[b]? = some (r3, m)) (hent : (zent (.ref b :: vs)).length ≤ zmL (zP r1)) (k : zW ro r1 0 (zfst (.ref b :: vs) (zmL (zP r1))) [] σ (zKt ro y pc ls rest Q)) : zW ro y pc ls st σ Q := by
  obtain ⟨n1, o1, σ1, h1, hkt⟩ := k
  obtain ⟨m2, o, σ', h2, hq⟩ := zback_kt (n := 0) hkt
  refine ⟨(n1 + m2) + 1, o, σ', ?_, hq⟩
  rw [zx_at he]
  dsimp only [zst]
  rw [if_neg h3, hd]
  dsimp only
  rw [if_pos hlow, hk]
  dsimp only
  rw [if_pos rfl, hv, if_pos ⟨hl, hent⟩, zx_up h1 (Nat.le_add_right n1 m2)]
  exact h2 _ (Nat.le_add_left m2 n1)
theorem zW.callI {x b m : Nat} {vs : List Value} (he : zlk (zmC (zP y)) pc = some (.invokespecial x, r1, r2, r3, tg)) (h3 : r3 ≠ 1000) (hd : st.drop r2 = .ref b :: rest) (hv : (st.take r2).reverse = vs) (hl : (st.take r2).length = r2) (hlow : zlow rest = true) (hk : σ.1[b]? = some (r3, m)) (hent : (zent (.ref b :: vs)).length ≤ zmL (zP r1)) (k : zW ro r1 0 (zfst (.ref b :: vs) (zmL (zP r1))) [] σ (zKt ro y pc ls rest Q)) : zW ro y pc ls st σ Q := by
  obtain ⟨n1, o1, σ1, h1, hkt⟩ := k
  obtain ⟨m2, o, σ', h2, hq⟩ := zback_kt (n := 0) hkt
  refine ⟨(n1 + m2) + 1, o, σ', ?_, hq⟩
  rw [zx_at he]
  dsimp only [zst]
  rw [hd]
  dsimp only
  rw [if_neg h3, if_pos hlow, hk]
  dsimp only
  rw [if_pos rfl, hv, if_pos ⟨hl, hent⟩, zx_up h1 (Nat.le_add_right n1 m2)]
  exact h2 _ (Nat.le_add_left m2 n1)
theorem zW.getf {x a k m j : Nat} {v : Value} (he : zlk (zmC (zP y)) pc = some (.getfield x, k, j, r3, tg)) (hk : σ.1[a]? = some (k, m)) (hv : zfv ((zFt k).getD j .int) σ a j = v) (q : zW ro y (pc + 3) ls (v :: st) σ Q) : zW ro y pc ls (.ref a :: st) σ Q := by
  refine zW.go he (fun rec => ?_) q
  dsimp only [zst]
  rw [hk]
  dsimp only
  rw [if_pos rfl, hv]
theorem zW.putf {x a k m j : Nat} {v : Value} {σ1 : zS} (he : zlk (zmC (zP y)) pc = some (.putfield x, k, j, r3, tg)) (hk : σ.1[a]? = some (k, m)) (hn : narrow ((zFt k).getD j .int) v = v) (hf : fits ((zFt k).getD j .int) v = true) (hv : zfp σ a j v = some σ1) (q : zW ro y (pc + 3) ls st σ1 Q) : zW ro y pc ls (v :: .ref a :: st) σ Q := by
  refine zW.go he (fun rec => ?_) q
  dsimp only [zst]
  rw [hk]
  dsimp only
  rw [if_pos ⟨rfl, hn, hf⟩, hv]
theorem zW.iald {a k n : Nat} {i : Int32} {v : Int32} (he : zlk (zmC (zP y)) pc = some (.iaload, r1, r2, r3, tg)) (hk : σ.1[a]? = some (k, n)) (hkk : k = 100 ∨ k = 200) (hi : zin i n = true) (hv : σ.2.1 a i.toNatClampNeg = v) (q : zW ro y (pc + 1) ls (.int v :: st) σ Q) : zW ro y pc ls (.int i :: .ref a :: st) σ Q := by
  refine zW.go he (fun rec => ?_) q
  dsimp only [zst]
  rw [hk]
  dsimp only
  rw [if_pos ⟨hkk, hi⟩, hv]
theorem zW.iast {a n : Nat} {i w : Int32} (he : zlk (zmC (zP y)) pc = some (.iastore, r1, r2, r3, tg)) (hk : σ.1[a]? = some (100, n)) (hi : zin i n = true) (q : zW ro y (pc + 1) ls st (σ.1, zup σ.2.1 a i.toNatClampNeg w, σ.2.2) Q) : zW ro y pc ls (.int w :: .int i :: .ref a :: st) σ Q := by
  refine zW.go he (fun rec => ?_) q
  dsimp only [zst]
  rw [hk]
  dsimp only
  rw [if_pos ⟨rfl, hi⟩]
theorem zW.aald {a k n : Nat} {i : Int32} {v : Value} (he : zlk (zmC (zP y)) pc = some (.aaload, r1, r2, r3, tg)) (hk : σ.1[a]? = some (k, n)) (hkk : k = 103 ∨ k = 104 ∨ k = 105) (hi : zin i n = true) (hv : va_rf (σ.2.2.1 a i.toNatClampNeg) = v) (q : zW ro y (pc + 1) ls (v :: st) σ Q) : zW ro y pc ls (.int i :: .ref a :: st) σ Q := by
  refine zW.go he (fun rec => ?_) q
  dsimp only [zst]
  rw [hk]
  dsimp only
  rw [if_pos ⟨hkk, hi⟩, hv]
theorem zW.alen {a k n : Nat} (he : zlk (zmC (zP y)) pc = some (.arraylength, r1, r2, r3, tg)) (hk : σ.1[a]? = some (k, n)) (hkk : k = 100 ∨ k = 103 ∨ k = 104 ∨ k = 105 ∨ k = 200) (q : zW ro y (pc + 1) ls (.int (Int32.ofNat n) :: st) σ Q) : zW ro y pc ls (.ref a :: st) σ Q := by
  refine zW.go he (fun rec => ?_) q
  dsimp only [zst]
  rw [hk]
  dsimp only
  rw [if_pos hkk]
theorem zW.idiv {a b : Int32} (he : zlk (zmC (zP y)) pc = some (.idiv, r1, r2, r3, tg)) (h0 : ¬ b = 0) (q : zW ro y (pc + 1) ls (.int (a / b) :: st) σ Q) : zW ro y pc ls (.int b :: .int a :: st) σ Q := by
  refine zW.go he (fun rec => ?_) q
  dsimp only [zst]
  rw [if_neg h0]
theorem zW.irem {a b : Int32} (he : zlk (zmC (zP y)) pc = some (.irem, r1, r2, r3, tg)) (h0 : ¬ b = 0) (q : zW ro y (pc + 1) ls (.int (a - a / b * b) :: st) σ Q) : zW ro y pc ls (.int b :: .int a :: st) σ Q := by
  refine zW.go he (fun rec => ?_) q
  dsimp only [zst]
  rw [if_neg h0]
theorem zW.tab {df lo hi : Int} {offs : Array Int} {x : Int32} (he : zlk (zmC (zP y)) pc = some (.tableswitch df lo hi offs, r1, r2, r3, tg)) (k1 : x.toInt < lo ∨ hi < x.toInt → zW ro y r2 ls st σ Q) (k2 : ∀ j t : Nat, x.toInt = lo + j → tg[j]? = some t → zW ro y t ls st σ Q) (hlen : hi + 1 ≤ lo + tg.length) : zW ro y pc ls (.int x :: st) σ Q := by
  by_cases h : x.toInt < lo ∨ hi < x.toInt
  · refine zW.go he (fun rec => ?_) (k1 h)
    dsimp only [zst]
    rw [if_pos h]
  · have hj : (x.toInt - lo).toNat < tg.length := by omega
    refine zW.go he (fun rec => ?_) (k2 (x.toInt - lo).toNat (tg[(x.toInt - lo).toNat]'hj) (by omega) (List.getElem?_eq_getElem hj))
    dsimp only [zst]
    rw [if_neg h, List.getElem?_eq_getElem hj]
theorem zW.if_eq {x : Int32} {off : Int} (he : zlk (zmC (zP y)) pc = some (.ifCond .eq off, r1, r2, r3, tg)) (kt : x = 0 → zW ro y r1 ls st σ Q) (kf : ¬ x = 0 → zW ro y (pc + 3) ls st σ Q) : zW ro y pc ls (.int x :: st) σ Q := by
  by_cases h : x = 0
  · exact zW.go he (fun rec => if_pos h) (kt h)
  · exact zW.go he (fun rec => if_neg h) (kf h)
theorem zW.if_ne {x : Int32} {off : Int} (he : zlk (zmC (zP y)) pc = some (.ifCond .ne off, r1, r2, r3, tg)) (kt : ¬ x = 0 → zW ro y r1 ls st σ Q) (kf : x = 0 → zW ro y (pc + 3) ls st σ Q) : zW ro y pc ls (.int x :: st) σ Q := by
  by_cases h : x = 0
  · exact zW.go he (fun rec => if_pos h) (kf h)
  · exact zW.go he (fun rec => if_neg h) (kt h)
theorem zW.if_lt {x : Int32} {off : Int} (he : zlk (zmC (zP y)) pc = some (.ifCond .lt off, r1, r2, r3, tg)) (kt : x < 0 → zW ro y r1 ls st σ Q) (kf : ¬ x < 0 → zW ro y (pc + 3) ls st σ Q) : zW ro y pc ls (.int x :: st) σ Q := by
  by_cases h : x < 0
  · exact zW.go he (fun rec => if_pos h) (kt h)
  · exact zW.go he (fun rec => if_neg h) (kf h)
theorem zW.if_ge {x : Int32} {off : Int} (he : zlk (zmC (zP y)) pc = some (.ifCond .ge off, r1, r2, r3, tg)) (kt : 0 ≤ x → zW ro y r1 ls st σ Q) (kf : ¬ 0 ≤ x → zW ro y (pc + 3) ls st σ Q) : zW ro y pc ls (.int x :: st) σ Q := by
  by_cases h : 0 ≤ x
  · exact zW.go he (fun rec => if_pos h) (kt h)
  · exact zW.go he (fun rec => if_neg h) (kf h)
theorem zW.if_gt {x : Int32} {off : Int} (he : zlk (zmC (zP y)) pc = some (.ifCond .gt off, r1, r2, r3, tg)) (kt : 0 < x → zW ro y r1 ls st σ Q) (kf : ¬ 0 < x → zW ro y (pc + 3) ls st σ Q) : zW ro y pc ls (.int x :: st) σ Q := by
  by_cases h : 0 < x
  · exact zW.go he (fun rec => if_pos h) (kt h)
  · exact zW.go he (fun rec => if_neg h) (kf h)
theorem zW.if_le {x : Int32} {off : Int} (he : zlk (zmC (zP y)) pc = some (.ifCond .le off, r1, r2, r3, tg)) (kt : x ≤ 0 → zW ro y r1 ls st σ Q) (kf : ¬ x ≤ 0 → zW ro y (pc + 3) ls st σ Q) : zW ro y pc ls (.int x :: st) σ Q := by
  by_cases h : x ≤ 0
  · exact zW.go he (fun rec => if_pos h) (kt h)
  · exact zW.go he (fun rec => if_neg h) (kf h)
theorem zW.icmp_eq {a b : Int32} {off : Int} (he : zlk (zmC (zP y)) pc = some (.if_icmp .eq off, r1, r2, r3, tg)) (kt : a = b → zW ro y r1 ls st σ Q) (kf : ¬ a = b → zW ro y (pc + 3) ls st σ Q) : zW ro y pc ls (.int b :: .int a :: st) σ Q := by
  by_cases h : a = b
  · exact zW.go he (fun rec => if_pos h) (kt h)
  · exact zW.go he (fun rec => if_neg h) (kf h)
theorem zW.icmp_ne {a b : Int32} {off : Int} (he : zlk (zmC (zP y)) pc = some (.if_icmp .ne off, r1, r2, r3, tg)) (kt : ¬ a = b → zW ro y r1 ls st σ Q) (kf : a = b → zW ro y (pc + 3) ls st σ Q) : zW ro y pc ls (.int b :: .int a :: st) σ Q := by
  by_cases h : a = b
  · exact zW.go he (fun rec => if_pos h) (kf h)
  · exact zW.go he (fun rec => if_neg h) (kt h)
theorem zW.icmp_lt {a b : Int32} {off : Int} (he : zlk (zmC (zP y)) pc = some (.if_icmp .lt off, r1, r2, r3, tg)) (kt : a < b → zW ro y r1 ls st σ Q) (kf : ¬ a < b → zW ro y (pc + 3) ls st σ Q) : zW ro y pc ls (.int b :: .int a :: st) σ Q := by
  by_cases h : a < b
  · exact zW.go he (fun rec => if_pos h) (kt h)
  · exact zW.go he (fun rec => if_neg h) (kf h)
theorem zW.icmp_ge {a b : Int32} {off : Int} (he : zlk (zmC (zP y)) pc = some (.if_icmp .ge off, r1, r2, r3, tg)) (kt : b ≤ a → zW ro y r1 ls st σ Q) (kf : ¬ b ≤ a → zW ro y (pc + 3) ls st σ Q) : zW ro y pc ls (.int b :: .int a :: st) σ Q := by
  by_cases h : b ≤ a
  · exact zW.go he (fun rec => if_pos h) (kt h)
  · exact zW.go he (fun rec => if_neg h) (kf h)
theorem zW.icmp_gt {a b : Int32} {off : Int} (he : zlk (zmC (zP y)) pc = some (.if_icmp .gt off, r1, r2, r3, tg)) (kt : b < a → zW ro y r1 ls st σ Q) (kf : ¬ b < a → zW ro y (pc + 3) ls st σ Q) : zW ro y pc ls (.int b :: .int a :: st) σ Q := by
  by_cases h : b < a
  · exact zW.go he (fun rec => if_pos h) (kt h)
  · exact zW.go he (fun rec => if_neg h) (kf h)
theorem zW.icmp_le {a b : Int32} {off : Int} (he : zlk (zmC (zP y)) pc = some (.if_icmp .le off, r1, r2, r3, tg)) (kt : a ≤ b → zW ro y r1 ls st σ Q) (kf : ¬ a ≤ b → zW ro y (pc + 3) ls st σ Q) : zW ro y pc ls (.int b :: .int a :: st) σ Q := by
  by_cases h : a ≤ b
  · exact zW.go he (fun rec => if_pos h) (kt h)
  · exact zW.go he (fun rec => if_neg h) (kf h)
end ZR
