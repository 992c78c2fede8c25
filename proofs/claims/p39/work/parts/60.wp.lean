/-! runs of the interpreter, told by what they come to -/
section ZWP
variable {P : Nat → zM} {ft : Nat → List FieldType} {ro : Nat → Int32 → zS → Option (zO × zS)}
set_option maxHeartbeats 4000000 in
theorem zst_mono {rec rec2 : zR} (hrec : ∀ y pc ls st σ r, rec y pc ls st σ = some r → rec2 y pc ls st σ = some r) {y pc : Nat} {ls : zLs} {st : List Value} {σ : zS} {e : zI} {r : zO × zS} (h : zst P ft ro rec y pc ls st σ e = some r) : zst P ft ro rec2 y pc ls st σ e = some r := by
  obtain ⟨i, r1, r2, r3, tg⟩ := e
  cases i <;> dsimp only [zst] at h ⊢
  all_goals first | (cases h; done) | exact hrec _ _ _ _ _ _ h | exact h | skip
  all_goals repeat' split at h
  all_goals first
    | (cases h; done)
    | exact hrec _ _ _ _ _ _ h
    | exact h
    | (rw [if_neg (by assumption)]; exact h)
    | (simp only [*, if_true, if_false, ite_true, ite_false, reduceIte, not_false_eq_true, not_true_eq_false, and_self]; first | exact h | exact hrec _ _ _ _ _ _ h | exact zback_mono hrec (fun r hr => hr) h | exact zback_mono hrec (fun r hr => hrec _ _ _ _ _ _ hr) h | exact zback_mono hrec (fun r hr => by first | (split at hr; exact hrec _ _ _ _ _ _ hr; cases hr) | exact hrec _ _ _ _ _ _ hr) h)
    | skip
end ZWP
section ZWU
variable {P : Nat → zM} {ft : Nat → List FieldType} {ro : Nat → Int32 → zS → Option (zO × zS)}
theorem zx_up : ∀ {n m y pc : Nat} {ls : zLs} {st : List Value} {σ : zS} {r : zO × zS}, zx P ft ro n y pc ls st σ = some r → n ≤ m → zx P ft ro m y pc ls st σ = some r
  | 0, _, _, _, _, _, _, _, h, _ => by cases h
  | n + 1, 0, _, _, _, _, _, _, _, hm => absurd hm (Nat.not_succ_le_zero n)
  | n + 1, m + 1, y, pc, ls, st, σ, r, h, hm => by
    unfold zx at h ⊢
    split at h
    · cases h
    · exact zst_mono (fun y pc ls st σ r h9 => zx_up h9 (Nat.le_of_succ_le_succ hm)) h
end ZWU
