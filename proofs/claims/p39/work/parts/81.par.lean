/-! a run that makes nothing goes so too where more cells lie behind -/
def zPr (a b : zS) : Prop := ∃ X2 : zK, b.1 = a.1 ++ X2 ∧ ∀ p, p < a.1.length → b.2.1 p = a.2.1 p ∧ b.2.2.1 p = a.2.2.1 p ∧ b.2.2.2.1 p = a.2.2.2.1 p
theorem zPr.k {a b : zS} (h : zPr a b) {q : Nat} {e : Nat × Nat} (k : a.1[q]? = some e) : b.1[q]? = some e ∧ b.2.1 q = a.2.1 q ∧ b.2.2.1 q = a.2.2.1 q ∧ b.2.2.2.1 q = a.2.2.2.1 q := by
  obtain ⟨X2, h1, h2⟩ := h
  have hq := (List.getElem?_eq_some_iff.mp k).1
  refine ⟨?_, h2 q hq⟩
  rw [h1, List.getElem?_append_left hq]
  exact k
theorem zPr.fv {a b : zS} (h : zPr a b) {q : Nat} {e : Nat × Nat} (k : a.1[q]? = some e) (ty : FieldType) (f : Nat) : zfv ty b q f = zfv ty a q f := by
  obtain ⟨-, h2, h3, h4⟩ := h.k k
  unfold zfv
  rw [h2, h3, h4]
theorem zPr.up {a b : zS} (h : zPr a b) {q : Nat} (f : Nat) (x : Int32) : zPr (a.1, zup a.2.1 q f x, a.2.2) (b.1, zup b.2.1 q f x, b.2.2) := by
  obtain ⟨X2, h1, h2⟩ := h
  refine ⟨X2, h1, fun p hp => ?_⟩
  obtain ⟨k1, k2, k3⟩ := h2 p hp
  refine ⟨?_, k2, k3⟩
  show zup b.2.1 q f x p = zup a.2.1 q f x p
  funext j
  unfold zup
  rw [k1]
theorem zPr.upR {a b : zS} (h : zPr a b) {q : Nat} (f : Nat) (x : Option Nat) : zPr (a.1, a.2.1, zup a.2.2.1 q f x, a.2.2.2) (b.1, b.2.1, zup b.2.2.1 q f x, b.2.2.2) := by
  obtain ⟨X2, h1, h2⟩ := h
  refine ⟨X2, h1, fun p hp => ?_⟩
  obtain ⟨k1, k2, k3⟩ := h2 p hp
  refine ⟨k1, ?_, k3⟩
  show zup b.2.2.1 q f x p = zup a.2.2.1 q f x p
  funext j
  unfold zup
  rw [k2]
theorem zPr.upG {a b : zS} (h : zPr a b) {q : Nat} (f : Nat) (x : Int64) : zPr (a.1, a.2.1, a.2.2.1, zup a.2.2.2.1 q f x, a.2.2.2.2) (b.1, b.2.1, b.2.2.1, zup b.2.2.2.1 q f x, b.2.2.2.2) := by
  obtain ⟨X2, h1, h2⟩ := h
  refine ⟨X2, h1, fun p hp => ?_⟩
  obtain ⟨k1, k2, k3⟩ := h2 p hp
  refine ⟨k1, k2, ?_⟩
  show zup b.2.2.2.1 q f x p = zup a.2.2.2.1 q f x p
  funext j
  unfold zup
  rw [k3]
theorem zPr.fp {a b a1 : zS} (h : zPr a b) {q f : Nat} {v : Value} (k : zfp a q f v = some a1) : ∃ b1, zfp b q f v = some b1 ∧ zPr a1 b1 := by
  unfold zfp at k ⊢
  split at k
  · cases k; exact ⟨_, rfl, h.up f _⟩
  · cases k; exact ⟨_, rfl, h.upG f _⟩
  · cases k; exact ⟨_, rfl, h.upR f _⟩
  · cases k; exact ⟨_, rfl, h.upR f _⟩
  · cases k
section ZPAR
variable {P : Nat → zM} {ft : Nat → List FieldType} {ro : Nat → Int32 → zS → Option (zO × zS)}
abbrev zPq (rec1 rec2 : zR) : Prop := ∀ y pc ls st σ1 σ2 o σ1', rec1 y pc ls st σ1 = some (o, σ1') → znc σ1' ≤ znc σ1 → zPr σ1 σ2 → ∃ σ2', rec2 y pc ls st σ2 = some (o, σ2') ∧ zPr σ1' σ2'
abbrev zPl (rec1 : zR) : Prop := ∀ y pc ls st σ o σ', rec1 y pc ls st σ = some (o, σ') → znc σ ≤ znc σ'
theorem zback_par {rec1 rec2 : zR} (hle : zPl rec1) (hrec : zPq rec1 rec2) {y pc : Nat} {ls : zLs} {rest : List Value} {a b : Option (zO × zS)} {c : Nat} (hr : ∀ o9 σ9, a = some (o9, σ9) → c ≤ znc σ9) (hr2 : ∀ o9 σ9, a = some (o9, σ9) → znc σ9 ≤ c → ∃ σ9', b = some (o9, σ9') ∧ zPr σ9 σ9') {o : zO} {σ' : zS} (h : zback P rec1 y pc ls rest a = some (o, σ')) (hc : znc σ' ≤ c) : ∃ σ2', zback P rec2 y pc ls rest b = some (o, σ2') ∧ zPr σ' σ2' := by
  cases a with
  | none => cases h
  | some q =>
    obtain ⟨o9, σ9⟩ := q
    have h0 := hr _ _ rfl
    cases o9 with
    | inl v =>
      have h1 := hle _ _ _ _ _ _ _ h
      obtain ⟨σ9', e, k⟩ := hr2 _ _ rfl (Nat.le_trans h1 hc)
      rw [e]
      exact hrec _ _ _ _ _ _ _ _ h (Nat.le_trans hc h0) k
    | inr E =>
      dsimp only [zback] at h
      cases hz : zcat (zmH (P y)) pc E with
      | none =>
        rw [hz] at h
        cases h
        obtain ⟨σ9', e, k⟩ := hr2 _ _ rfl hc
        rw [e]
        dsimp only [zback]
        rw [hz]
        exact ⟨_, rfl, k⟩
      | some h9 =>
        rw [hz] at h
        dsimp only at h
        split at h
        · rename_i k q hl
          split at h
          · rename_i hk
            have h1 := hle _ _ _ _ _ _ _ h
            obtain ⟨σ9', e, kk⟩ := hr2 _ _ rfl (Nat.le_trans h1 hc)
            rw [e]
            dsimp only [zback]
            rw [hz]
            dsimp only
            rw [hl]
            dsimp only
            rw [if_pos hk]
            exact hrec _ _ _ _ _ _ _ _ h (Nat.le_trans hc h0) kk
          · cases h
        · rename_i k q hl
          split at h
          · rename_i hk
            have h1 := hle _ _ _ _ _ _ _ h
            obtain ⟨σ9', e, kk⟩ := hr2 _ _ rfl (Nat.le_trans h1 hc)
            rw [e]
            dsimp only [zback]
            rw [hz]
            dsimp only
            rw [hl]
            dsimp only
            rw [if_pos hk]
            exact hrec _ _ _ _ _ _ _ _ h (Nat.le_trans hc h0) kk
          · cases h
        · cases h
set_option maxHeartbeats 8000000 in
theorem zst_par {rec1 rec2 : zR} (hle : zPl rec1) (hrec : zPq rec1 rec2) (hro : ∀ m r σ o σ', ro m r σ = some (o, σ') → znc σ < znc σ') {y pc : Nat} {ls : zLs} {st : List Value} {σ1 σ2 : zS} {e : zI} {o : zO} {σ' : zS} (h : zst P ft ro rec1 y pc ls st σ1 e = some (o, σ')) (hc : znc σ' ≤ znc σ1) (hR : zPr σ1 σ2) : ∃ σ2', zst P ft ro rec2 y pc ls st σ2 e = some (o, σ2') ∧ zPr σ' σ2' := by
  obtain ⟨i, r1, r2, r3, tg⟩ := e
  cases i <;> dsimp only [zst] at h ⊢
  all_goals first | (cases h; done) | exact hrec _ _ _ _ _ _ _ _ h hc hR | skip
  case getfield x =>
    split at h
    · rename_i a r
      split at h
      · rename_i c n hk
        split at h
        · rename_i hcc
          rw [(hR.k hk).1]
          dsimp only
          rw [if_pos hcc, hR.fv hk]
          exact hrec _ _ _ _ _ _ _ _ h hc hR
        · cases h
      · cases h
    · cases h
  case putfield x =>
    split at h
    · rename_i v a r
      split at h
      · rename_i c n hk
        split at h
        · rename_i hcc
          split at h
          · rename_i s9 hs9
            obtain ⟨t9, e9, k9⟩ := hR.fp hs9
            rw [(hR.k hk).1]
            dsimp only
            rw [if_pos hcc, e9]
            dsimp only
            exact hrec _ _ _ _ _ _ _ _ h (Nat.le_trans hc (Nat.le_of_eq (zfp_K hs9).2.1.symm)) k9
          · cases h
        · cases h
      · cases h
    · cases h
  case arraylength =>
    split at h
    · rename_i a r
      split at h
      · rename_i c n hk
        split at h
        · rename_i hcc
          rw [(hR.k hk).1]
          dsimp only
          rw [if_pos hcc]
          exact hrec _ _ _ _ _ _ _ _ h hc hR
        · cases h
      · cases h
    · cases h
  case iaload =>
    split at h
    · rename_i i a r
      split at h
      · rename_i c n hk
        split at h
        · rename_i hcc
          obtain ⟨k1, k2, -⟩ := hR.k hk
          rw [k1]
          dsimp only
          rw [if_pos hcc, k2]
          exact hrec _ _ _ _ _ _ _ _ h hc hR
        · cases h
      · cases h
    · cases h
  case iastore =>
    split at h
    · rename_i x i a r
      split at h
      · rename_i c n hk
        split at h
        · rename_i hcc
          rw [(hR.k hk).1]
          dsimp only
          rw [if_pos hcc]
          exact hrec _ _ _ _ _ _ _ _ h hc (hR.up _ _)
        · cases h
      · cases h
    · cases h
  case aaload =>
    split at h
    · rename_i i a r
      split at h
      · rename_i c n hk
        split at h
        · rename_i hcc
          obtain ⟨k1, -, k3, -⟩ := hR.k hk
          rw [k1]
          dsimp only
          rw [if_pos hcc, k3]
          exact hrec _ _ _ _ _ _ _ _ h hc hR
        · cases h
      · cases h
    · cases h
  case aastore =>
    split at h
    · rename_i v i a r
      split at h
      · rename_i c n cv m hk hv
        split at h
        · rename_i hcc
          rw [(hR.k hk).1, (hR.k hv).1]
          dsimp only
          rw [if_pos hcc]
          exact hrec _ _ _ _ _ _ _ _ h hc (hR.upR _ _)
        · cases h
      · cases h
    · cases h
  case newarray ty =>
    exfalso
    repeat' split at h
    all_goals first
      | (cases h; done)
      | (have h9 := hle _ _ _ _ _ _ _ h
         exact absurd (Nat.le_trans h9 hc) (Nat.not_succ_le_self _))
  case anewarray ty =>
    exfalso
    repeat' split at h
    all_goals first
      | (cases h; done)
      | (have h9 := hle _ _ _ _ _ _ _ h
         exact absurd (Nat.le_trans h9 hc) (Nat.not_succ_le_self _))
  case new ty =>
    exfalso
    repeat' split at h
    all_goals first
      | (cases h; done)
      | (have h9 := hle _ _ _ _ _ _ _ h
         exact absurd (Nat.le_trans h9 hc) (Nat.not_succ_le_self _))
      | (cases h; exact absurd hc (Nat.not_succ_le_self _))
  case invokestatic x =>
    split at h
    · rename_i hl
      rw [if_pos hl]
      refine zback_par hle hrec (fun o9 σ9 h9 => ?_) (fun o9 σ9 h9 k9 => ?_) h hc
      · split at h9
        · exact hle _ _ _ _ _ _ _ h9
        · cases h9
      · split at h9
        · rename_i hg
          rw [if_pos hg]
          exact hrec _ _ _ _ _ _ _ _ h9 k9 hR
        · cases h9
    · cases h
  case invokevirtual x =>
    by_cases h3 : r3 = 2000
    · rw [if_pos h3] at h
      exfalso
      split at h
      · rename_i x b rest
        split at h
        case isFalse => cases h
        split at h
        · rename_i w s9 hr9
          have h8 := hro _ _ _ _ _ hr9
          have h9 := hle _ _ _ _ _ _ _ h
          omega
        · rename_i E s9 hr9
          have h8 := hro _ _ _ _ _ hr9
          have h9 := zback_rel (Rel := fun a b => znc a ≤ znc b) (fun σ => Nat.le_refl _) (fun a b c h1 h2 => Nat.le_trans h1 h2) hle (σ := s9) (fun o σ1 hq => by cases hq; exact Nat.le_refl _) h
          omega
        · cases h
      · cases h
    · rw [if_neg h3] at h ⊢
      split at h
      · rename_i b rest hst
        split at h
        · rename_i hl
          rw [if_pos hl]
          split at h
          · rename_i c n hk
            rw [(hR.k hk).1]
            dsimp only
            split at h
            · rename_i hcc
              rw [if_pos hcc]
              refine zback_par hle hrec (fun o9 σ9 h9 => ?_) (fun o9 σ9 h9 k9 => ?_) h hc
              · split at h9
                · exact hle _ _ _ _ _ _ _ h9
                · cases h9
              · split at h9
                · rename_i hg
                  rw [if_pos hg]
                  exact hrec _ _ _ _ _ _ _ _ h9 k9 hR
                · cases h9
            · cases h
          · cases h
        · cases h
      · cases h
  case invokespecial x =>
    split at h
    · rename_i b rest hst
      split at h
      · rename_i h3
        rw [if_pos h3]
        split at h
        · rename_i hg
          rw [if_pos hg]
          exact hrec _ _ _ _ _ _ _ _ h hc hR
        · cases h
      · rename_i h3
        rw [if_neg h3]
        split at h
        · rename_i hl
          rw [if_pos hl]
          split at h
          · rename_i c n hk
            rw [(hR.k hk).1]
            dsimp only
            split at h
            · rename_i hcc
              rw [if_pos hcc]
              refine zback_par hle hrec (fun o9 σ9 h9 => ?_) (fun o9 σ9 h9 k9 => ?_) h hc
              · split at h9
                · exact hle _ _ _ _ _ _ _ h9
                · cases h9
              · split at h9
                · rename_i hg
                  rw [if_pos hg]
                  exact hrec _ _ _ _ _ _ _ _ h9 k9 hR
                · cases h9
            · cases h
          · cases h
        · cases h
    · cases h
  all_goals repeat' split at h
  all_goals first
    | (cases h; done)
    | exact hrec _ _ _ _ _ _ _ _ h hc hR
    | (cases h; exact ⟨_, rfl, hR⟩)
    | skip
  all_goals first
    | (rw [if_neg (by assumption)]; exact hrec _ _ _ _ _ _ _ _ h hc hR)
    | (rename_i h1; rw [h1]; exact hrec _ _ _ _ _ _ _ _ h hc hR)
    | (simp only [*, if_true, if_false, ite_true, ite_false, reduceIte, not_false_eq_true, not_true_eq_false, and_self]; first | exact hrec _ _ _ _ _ _ _ _ h hc hR | exact ⟨_, rfl, hR⟩ | (cases h; exact ⟨_, rfl, hR⟩))
    | skip
theorem zx_par (hle : ∀ m r σ o σ', ro m r σ = some (o, σ') → zLe σ σ') (hro : ∀ m r σ o σ', ro m r σ = some (o, σ') → znc σ < znc σ') : ∀ n : Nat, zPq (zx P ft ro n) (zx P ft ro n)
  | 0 => fun _ _ _ _ _ _ _ _ h => by cases h
  | n + 1 => fun y pc ls st σ1 σ2 o σ1' h hc hR => by
    have ih := zx_par hle hro n
    unfold zx at h ⊢
    split at h
    · cases h
    · exact zst_par (fun y pc ls st σ o σ' h9 => (zx_le hle h9).1) ih hro h hc hR
end ZPAR
theorem zro_le : ∀ m r σ o σ', zro m r σ = some (o, σ') → zLe σ σ' := by
  intro m r σ o σ' h
  unfold zro at h
  split at h
  · split at h
    · cases h
      exact ⟨Nat.le_succ _, Nat.le_add_right _ _⟩
    · cases h
      exact ⟨Nat.le_add_right _ _, Nat.le_add_right _ _⟩
  · cases h
theorem zro_lt : ∀ m r σ o σ', zro m r σ = some (o, σ') → znc σ < znc σ' := by
  intro m r σ o σ' h
  unfold zro at h
  split at h
  · split at h
    · cases h
      exact Nat.lt_succ_self _
    · cases h
      exact Nat.lt_add_of_pos_right (by decide)
  · cases h
/-- what the digest is, wherever the siege's own cells are so -/
def zDg (L : Nat) (s : zJ) (R : Nat → Nat → Option Nat) (G : Nat → Nat → Int64) (D : Int64) : Prop := ∀ (g : Nat → Int) (U F T B ph : Int) (X : zK) (s2 : zJ) (R2 : Nat → Nat → Option Nat) (G2 : Nat → Nat → Int64) (nc ns : Nat) (Q : zO → zS → Prop), zSR R2 → zV g U F T B ph s2 → (∀ p f : Nat, p < 125 → s2 p f = s p f) → (∀ p : Nat, p < 125 → R2 p = R p) → (∀ p : Nat, p < 125 → G2 p = G p) → Q (.inl (some (.long D))) (zN L X (zhi s2) R2 G2 nc ns) → zW zro 6 0 (zfst [.ref 6] 11) [] (zN L X (zhi s2) R2 G2 nc ns) Q
theorem zDg_ex {g : Nat → Int} {U F T B ph : Int} {L : Nat} {s : zJ} {R : Nat → Nat → Option Nat} {G : Nat → Nat → Int64} (S : zSR R) (V : zV g U F T B ph s) : ∃ D, zDg L s R G D := by
  obtain ⟨n, o, σ', h, D, rfl, rfl⟩ := t_S_digest (ro := zro) (L := L) (X := []) (G := G) (nc := 0) (ns := 0) (Q := fun o σ' => ∃ D : Int64, o = .inl (some (.long D)) ∧ σ' = zN L [] (zhi s) R G 0 0) S V (fun x => ⟨x, rfl, rfl⟩)
  refine ⟨D, fun g2 U2 F2 T2 B2 ph2 X s2 R2 G2 nc ns Q S2 V2 e1 e2 e3 hq => ?_⟩
  obtain ⟨n2, o2, σ2, h2, D2, rfl, rfl⟩ := t_S_digest (ro := zro) (L := L) (X := X) (G := G2) (nc := nc) (ns := ns) (Q := fun o σ' => ∃ D : Int64, o = .inl (some (.long D)) ∧ σ' = zN L X (zhi s2) R2 G2 nc ns) S2 V2 (fun x => ⟨x, rfl, rfl⟩)
  have hp : zPr (zN L [] (zhi s) R G 0 0) (zN L X (zhi s2) R2 G2 nc ns) := by
    refine ⟨X, by show zK0 L ++ X = (zK0 L ++ []) ++ X; rw [List.append_nil], fun p hpl => ?_⟩
    have hpl2 : p < 125 := by
      have e9 : (zK0 L ++ ([] : zK)).length = 125 := by rw [List.append_nil]; exact zK0_len
      exact Nat.lt_of_lt_of_eq hpl e9
    refine ⟨?_, e2 p hpl2, e3 p hpl2⟩
    show zhi s2 p = zhi s p
    funext j
    unfold zhi
    rw [e1 p j hpl2]
  obtain ⟨σ3, h3, -⟩ := zx_par zro_le zro_lt n _ _ _ _ _ _ _ _ h (Nat.le_refl _) hp
  have a1 := zx_up h3 (Nat.le_add_right n n2)
  have a2 := zx_up h2 (Nat.le_add_left n2 n)
  rw [a1] at a2
  injection a2 with a2
  injection a2 with a3 a4
  injection a3 with a3
  injection a3 with a3
  injection a3 with a3
  subst a3
  exact ⟨n2, _, _, h2, hq⟩
theorem zDg.mv {L : Nat} {s s2 : zJ} {R R2 : Nat → Nat → Option Nat} {G G2 : Nat → Nat → Int64} {D : Int64} (h : zDg L s R G D) (e1 : ∀ p f : Nat, p < 125 → s2 p f = s p f) (e2 : ∀ p : Nat, p < 125 → R2 p = R p) (e3 : ∀ p : Nat, p < 125 → G2 p = G p) : zDg L s2 R2 G2 D :=
  fun g U F T B ph X s3 R3 G3 nc ns Q S V f1 f2 f3 hq => h g U F T B ph X s3 R3 G3 nc ns Q S V (fun p f hp => (f1 p f hp).trans (e1 p f hp)) (fun p hp => (f2 p hp).trans (e2 p hp)) (fun p hp => (f3 p hp).trans (e3 p hp)) hq
