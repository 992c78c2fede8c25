/-! what holds of every run of the interpreter: more is made, never less; more fuel, the same end -/
section ZMONO
variable {P : Nat → zM} {ft : Nat → List FieldType} {ro : Nat → Int32 → zS → Option (zO × zS)}
theorem zback_rel {Rel : zS → zS → Prop} (hrf : ∀ σ, Rel σ σ) (htr : ∀ a b c, Rel a b → Rel b c → Rel a c) {rec : zR} (hrec : ∀ y pc ls st σ o σ', rec y pc ls st σ = some (o, σ') → Rel σ σ') {y pc : Nat} {ls : zLs} {rest : List Value} {σ : zS} {r : Option (zO × zS)} (hr : ∀ o σ1, r = some (o, σ1) → Rel σ σ1) {o : zO} {σ' : zS} (h : zback P rec y pc ls rest r = some (o, σ')) : Rel σ σ' := by
  unfold zback at h
  split at h
  · cases h
  · exact htr _ _ _ (hr _ _ rfl) (hrec _ _ _ _ _ _ _ h)
  · split at h
    · cases h
      exact hr _ _ rfl
    · split at h
      · split at h
        · exact htr _ _ _ (hr _ _ rfl) (hrec _ _ _ _ _ _ _ h)
        · cases h
      · split at h
        · exact htr _ _ _ (hr _ _ rfl) (hrec _ _ _ _ _ _ _ h)
        · cases h
      · cases h
set_option maxHeartbeats 4000000 in
theorem zst_rel {Rel : zS → zS → Prop} (hrf : ∀ σ, Rel σ σ) (htr : ∀ a b c, Rel a b → Rel b c → Rel a c) (hfp : ∀ σ a f v σ1, zfp σ a f v = some σ1 → Rel σ σ1) (hia : ∀ (σ : zS) a i x, Rel σ (σ.1, zup σ.2.1 a i x, σ.2.2)) (haa : ∀ (σ : zS) a i x, Rel σ (σ.1, σ.2.1, zup σ.2.2.1 a i x, σ.2.2.2)) (hnw : ∀ σ k n, Rel σ (znw σ k n)) (hth : ∀ σ, Rel σ (zthr σ)) (hro : ∀ m r σ o σ', ro m r σ = some (o, σ') → Rel σ σ')
    {rec : zR} (hrec : ∀ y pc ls st σ o σ', rec y pc ls st σ = some (o, σ') → Rel σ σ') {y pc : Nat} {ls : zLs} {st : List Value} {σ : zS} {e : zI} {o : zO} {σ' : zS} (h : zst P ft ro rec y pc ls st σ e = some (o, σ')) : Rel σ σ' := by
  obtain ⟨i, r1, r2, r3, tg⟩ := e
  cases i <;> dsimp only [zst] at h
  all_goals first | (cases h; done) | exact hrec _ _ _ _ _ _ _ h | skip
  all_goals repeat' split at h
  all_goals first
    | (cases h; done)
    | exact hrec _ _ _ _ _ _ _ h
    | (cases h; exact hrf _)
    | (cases h; exact hth _)
    | exact htr _ _ _ (hnw _ _ _) (hrec _ _ _ _ _ _ _ h)
    | exact htr _ _ _ (hia _ _ _ _) (hrec _ _ _ _ _ _ _ h)
    | exact htr _ _ _ (haa _ _ _ _) (hrec _ _ _ _ _ _ _ h)
    | exact htr _ _ _ (hfp _ _ _ _ _ (by assumption)) (hrec _ _ _ _ _ _ _ h)
    | exact htr _ _ _ (hro _ _ _ _ _ (by assumption)) (hrec _ _ _ _ _ _ _ h)
    | exact zback_rel hrf htr hrec (fun o σ1 hq => hrec _ _ _ _ _ _ _ hq) h
    | exact zback_rel hrf htr hrec (fun o σ1 hq => by split at hq; exact hrec _ _ _ _ _ _ _ hq; cases hq) h
    | exact zback_rel hrf htr hrec (fun o σ1 hq => by cases hq; exact hro _ _ _ _ _ (by assumption)) h
    | skip
theorem zx_rel {Rel : zS → zS → Prop} (hrf : ∀ σ, Rel σ σ) (htr : ∀ a b c, Rel a b → Rel b c → Rel a c) (hfp : ∀ σ a f v σ1, zfp σ a f v = some σ1 → Rel σ σ1) (hia : ∀ (σ : zS) a i x, Rel σ (σ.1, zup σ.2.1 a i x, σ.2.2)) (haa : ∀ (σ : zS) a i x, Rel σ (σ.1, σ.2.1, zup σ.2.2.1 a i x, σ.2.2.2)) (hnw : ∀ σ k n, Rel σ (znw σ k n)) (hth : ∀ σ, Rel σ (zthr σ)) (hro : ∀ m r σ o σ', ro m r σ = some (o, σ') → Rel σ σ') : ∀ (n : Nat) (y pc : Nat) (ls : zLs) (st : List Value) (σ : zS) (o : zO) (σ' : zS), zx P ft ro n y pc ls st σ = some (o, σ') → Rel σ σ'
  | 0, _, _, _, _, _, _, _, h => by cases h
  | n + 1, y, pc, ls, st, σ, o, σ', h => by
    have ih := zx_rel hrf htr hfp hia haa hnw hth hro n
    unfold zx at h
    split at h
    · cases h
    · exact zst_rel hrf htr hfp hia haa hnw hth hro ih h
def zLe (σ σ' : zS) : Prop := znc σ ≤ znc σ' ∧ zns σ ≤ zns σ'
theorem zx_le (hro : ∀ m r σ o σ', ro m r σ = some (o, σ') → zLe σ σ') {n y pc : Nat} {ls : zLs} {st : List Value} {σ : zS} {o : zO} {σ' : zS} (h : zx P ft ro n y pc ls st σ = some (o, σ')) : zLe σ σ' :=
  zx_rel (Rel := zLe) (fun σ => ⟨Nat.le_refl _, Nat.le_refl _⟩) (fun a b c h1 h2 => ⟨Nat.le_trans h1.1 h2.1, Nat.le_trans h1.2 h2.2⟩) (fun σ a f v σ1 h => by have := zfp_K h; exact ⟨Nat.le_of_eq this.2.1.symm, Nat.le_of_eq this.2.2.symm⟩) (fun σ a i x => ⟨Nat.le_refl _, Nat.le_refl _⟩) (fun σ a i x => ⟨Nat.le_refl _, Nat.le_refl _⟩) (fun σ k n => ⟨Nat.le_succ _, Nat.le_add_right _ _⟩) (fun σ => ⟨Nat.le_succ _, Nat.le_add_right _ _⟩) hro n y pc ls st σ o σ' h
theorem zback_mono {rec rec2 : zR} (hrec : ∀ y pc ls st σ r, rec y pc ls st σ = some r → rec2 y pc ls st σ = some r) {y pc : Nat} {ls : zLs} {rest : List Value} {a b : Option (zO × zS)} (hab : ∀ r, a = some r → b = some r) {r : zO × zS} (h : zback P rec y pc ls rest a = some r) : zback P rec2 y pc ls rest b = some r := by
  cases a with
  | none => cases h
  | some q =>
    rw [hab q rfl]
    obtain ⟨o, σ⟩ := q
    cases o with
    | inl v => exact hrec _ _ _ _ _ _ h
    | inr E =>
      dsimp only [zback] at h ⊢
      repeat' split at h
      all_goals first
        | (cases h; done)
        | exact h
        | (rename_i h1; simp only [h1, if_true]; first | exact h | exact hrec _ _ _ _ _ _ h)
        | skip
      all_goals first
        | (simp_all; done)
        | (simp only [*, if_true]; exact hrec _ _ _ _ _ _ h)
        | skip
end ZMONO
