/-! every instruction; every method -/
def zRow (l : Launch) (Y : zY) (P : Nat → zM) (ro : Nat → Int32 → zS → Option (zO × zS)) : Prop := ∀ (X : zX) (y pc x r1 r2 : Nat) (tg : List Nat) (ls : zLs) (m : Nat) (r : Int32) (rest : List Value) (σ : zS) (o : zO) (σ1 : zS), (pc, ((.invokevirtual x, r1, r2, 2000, tg) : zI)) ∈ zmC (P y) → zFix X → zOn (P y) X → xl X = l → xY X = Y → zVx X → ro m r σ = some (o, σ1) → zlow rest = true → znc σ1 - xnc X ≤ (xR X).cells → zns σ1 - xns X ≤ (xR X).slots → (∀ w, o = .inl (some (.int w)) → zC X (pc + 6) ls (.int w :: rest) σ1) → (∀ E, o = .inr E → zHd X pc ls E σ1) → zC X pc ls (.int r :: .ref m :: rest) σ
def zHyp (l : Launch) (Y : zY) (P : Nat → zM) (zic : Nat → Nat) (ro : Nat → Int32 → zS → Option (zO × zS)) : Prop :=
  l.stackTraces = false ∧ zCls Y.1.2.1 Y.1.2.2.1 zTb ∧ (∀ y, ∀ q ∈ zmC (P y), zok Y.1.2.1 zic P y q.1 q.2 = true) ∧
  (∀ y, ∀ x ∈ zmH (P y), (x.2.2.2 = 86 ∨ x.2.2.2 = 43) ∧ Cond.classLink (zmN (P y)).cls x.2.2.2 (zEx x.2.2.2) ∈ zTb) ∧
  (∀ E, E = 86 ∨ E = 43 → Cond.castable (zEx E) (zEx E) ∈ zWs) ∧
  (∀ E, E = 86 ∨ E = 43 ∨ E = 0 → Bundle.fit (zEx E) = true ∧ Cond.classLink "Siegelines" (zik E) (zEx E) ∈ zTb ∧ Cond.initialized (zEx E) ∈ zTb ∧ ∀ w ∈ vx_atS "Siegelines" (zic E) (zEx E) zNm, w ∈ zTb ∨ w ∈ zWs) ∧
  (Cond.instanceMethod Lib.objectInit ∈ zTb ∧ Cond.code Lib.objectInit ⟨#[0xb1]⟩ 1 none ∈ zTb) ∧
  (∀ m r σ o σ', ro m r σ = some (o, σ') → zLe σ σ') ∧ zRow l Y P ro ∧ ∀ y, zmC (P y) ≠ [] → zmF (P y) ≠ 12 → zMk (P y)
section ZALL
variable {l : Launch} {Y : zY} {P : Nat → zM} {zic : Nat → Nat} {ro : Nat → Int32 → zS → Option (zO × zS)}
theorem zLe.rf (σ : zS) : zLe σ σ := ⟨Nat.le_refl _, Nat.le_refl _⟩
theorem zLe.tr (a b c : zS) (h1 : zLe a b) (h2 : zLe b c) : zLe a c := ⟨Nat.le_trans h1.1 h2.1, Nat.le_trans h1.2 h2.2⟩
theorem zback_le {rec : zR} (hle : ∀ y pc ls st σ o σ', rec y pc ls st σ = some (o, σ') → zLe σ σ') {y pc : Nat} {ls : zLs} {rest : List Value} {o1 : zO} {σ1 : zS} {o : zO} {σ' : zS} (h : zback P rec y pc ls rest (some (o1, σ1)) = some (o, σ')) : zLe σ1 σ' :=
  zback_rel zLe.rf zLe.tr hle (fun o2 σ2 hq => by cases hq; exact zLe.rf _) h
theorem zback_hd (Hy : zHyp l Y P zic ro) {rec : zR} {X : zX} {y : Nat} (F : zFix X) (V : zVx X) (O : zOn (P y) X) {o : zO} {σ' : zS} (hQ : xQ X = zQ X o σ') (hr1 : znc σ' - xnc X ≤ (xR X).cells) (hr2 : zns σ' - xns X ≤ (xR X).slots) (hle : ∀ y pc ls st σ o σ', rec y pc ls st σ = some (o, σ') → zLe σ σ') (KB : ∀ pc ls st σ, rec y pc ls st σ = some (o, σ') → zC X pc ls st σ) (hYcl : Y.1.2.1 = xcl X) {pc E : Nat} {ls : zLs} {rest : List Value} {σ1 : zS} (h : zback P rec y pc ls rest (some (.inr E, σ1)) = some (o, σ')) : zHd X pc ls E σ1 := by
  obtain ⟨-, -, hok, hH, hca, -⟩ := Hy
  have hown : xown X = (zmN (P y)).cls := O.2.2.1
  have hnl : ∀ z ∈ zmH (P y), (¬ (z.1 ≤ pc ∧ pc < z.2.1) ∨ z.2.2.2 ≠ E) → ¬ (z.1 ≤ pc ∧ pc < z.2.1) ∨ (z.2.2.2 ≠ 0 ∧ Cond.classLink (xown X) z.2.2.2 (zEx z.2.2.2) ∈ zTb ∧ (zEx E, zEx z.2.2.2) ∈ zNcs) := by
    intro z hz hq
    rcases hq with hq | hq
    · exact Or.inl hq
    · obtain ⟨g1, g2⟩ := hH y z hz
      exact Or.inr ⟨by omega, by rw [hown]; exact g2, zNc_in g1 hq⟩
  dsimp only [zback] at h
  split at h
  · rename_i hc
    cases h
    exact zHd_out F V O (fun x hx => hnl x hx (zcat_no hc x hx)) hQ hr1 hr2
  · rename_i h9 hc
    obtain ⟨pre, x, suf, hs, hp, hx1, hxE, hxh⟩ := zcat_yes hc
    have hxm : x ∈ zmH (P y) := by rw [hs]; exact List.mem_append_right _ List.mem_cons_self
    have hpm : ∀ z ∈ pre, z ∈ zmH (P y) := fun z hz => by rw [hs]; exact List.mem_append_left _ hz
    obtain ⟨g1, g2⟩ := hH y x hxm
    rw [hxE] at g1 g2
    split at h
    · rename_i k q hlk
      split at h
      · rename_i hk
        have hd := hok y _ (zlk_in hlk)
        exact zHd_st F V O pre suf hs (fun z hz => hnl z (hpm z hz) (hp z hz)) hx1 (by omega) hxE hxh (by rw [hown]; exact g2) (hca E g1) (by rw [O.1]; exact zdec_is hd) hk (KB _ _ _ _ h)
      · cases h
    · rename_i k q hlk
      split at h
      · rename_i hk
        have hd := hok y _ (zlk_in hlk)
        exact zHd_stn F V O pre suf hs (fun z hz => hnl z (hpm z hz) (hp z hz)) hx1 (by omega) hxE hxh (by rw [hown]; exact g2) (hca E g1) (by rw [O.1]; exact zdec_is hd) hk (KB _ _ _ _ h)
      · cases h
    · cases h
theorem zlow_is {rest : List Value} (h : zlow rest = true) : (rest.map fun v => v.category).sum ≤ 8 := by
  unfold zlow at h
  exact of_decide_eq_true h
set_option maxHeartbeats 8000000 in
theorem zst_sim (Hy : zHyp l Y P zic ro) {rec : zR} {X : zX} {y : Nat} (F : zFix X) (V : zVx X) (O : zOn (P y) X) (hl : xl X = l) (hY : xY X = Y) {o : zO} {σ' : zS} (hQ : xQ X = zQ X o σ') (hr1 : znc σ' - xnc X ≤ (xR X).cells) (hr2 : zns σ' - xns X ≤ (xR X).slots) (hle : ∀ y pc ls st σ o σ', rec y pc ls st σ = some (o, σ') → zLe σ σ') (KB : ∀ pc ls st σ, rec y pc ls st σ = some (o, σ') → zC X pc ls st σ)
    (hM : ∀ y1 vs σ1 o1 σ2, rec y1 0 (zfst vs (zmL (P y1))) [] σ1 = some (o1, σ2) → (zent vs).length ≤ zmL (P y1) → plainFor (zmN (P y1)) = true → zMet l Y P y1 vs σ1 o1 σ2) {pc : Nat} {ls : zLs} {st : List Value} {σ : zS} {e : zI} (hin : (pc, e) ∈ zmC (P y)) (h : zst P Y.1.2.2.1 ro rec y pc ls st σ e = some (o, σ')) : zC X pc ls st σ := by
  subst hl hY
  obtain ⟨hstk, hcls, hok, hH, hca, hE, hO, hro, hrow, hmk⟩ := id Hy
  have hk := hok y _ hin
  have hcc : xcc X = zmB (P y) := O.1
  have hown : xown X = (zmN (P y)).cls := O.2.2.1
  have hTs : xTs X = zws (P y) := O.2.2.2.1
  have hsub : ∀ w, w ∈ zTb → w ∈ xTs X := fun w hw => by rw [hTs]; exact List.mem_cons_of_mem _ hw
  obtain ⟨i, r1, r2, r3, tg⟩ := e
  cases i <;> dsimp only [zst] at h <;> dsimp only [zok] at hk <;> (try rw [← hcc] at hk) <;> (try rw [← hown] at hk)
  all_goals first | (cases h; done) | skip
  case aload k =>
    split at h
    · rename_i a hg; exact zs_aload F (zdec_is hk) hg (KB _ _ _ _ h)
    · rename_i hg; exact zs_aloadN F (zdec_is hk) hg (KB _ _ _ _ h)
    · cases h
  case aload_n k =>
    split at h
    · rename_i a hg; exact zs_aload_n F (zdec_is hk) hg (KB _ _ _ _ h)
    · rename_i hg; exact zs_aload_nN F (zdec_is hk) hg (KB _ _ _ _ h)
    · cases h
  case iload k =>
    split at h
    · rename_i a hg; exact zs_iload F (zdec_is hk) hg (KB _ _ _ _ h)
    · cases h
  case iload_n k =>
    split at h
    · rename_i a hg; exact zs_iload_n F (zdec_is hk) hg (KB _ _ _ _ h)
    · cases h
  case lload k =>
    split at h
    · rename_i a hg; exact zs_lload F (zdec_is hk) hg (KB _ _ _ _ h)
    · cases h
  case lload_n k =>
    split at h
    · rename_i a hg; exact zs_lload_n F (zdec_is hk) hg (KB _ _ _ _ h)
    · cases h
  case astore k =>
    split at h
    · rename_i hl9
      split at h
      · exact zs_astore F (zdec_is hk) hl9 (KB _ _ _ _ h)
      · exact zs_astoreN F (zdec_is hk) hl9 (KB _ _ _ _ h)
      · cases h
    · cases h
  case astore_n k =>
    split at h
    · rename_i hl9
      split at h
      · exact zs_astore_n F (zdec_is hk) hl9 (KB _ _ _ _ h)
      · exact zs_astore_nN F (zdec_is hk) hl9 (KB _ _ _ _ h)
      · cases h
    · cases h
  case istore k =>
    split at h
    · rename_i hl9
      split at h
      · exact zs_istore F (zdec_is hk) hl9 (KB _ _ _ _ h)
      · cases h
    · cases h
  case istore_n k =>
    split at h
    · rename_i hl9
      split at h
      · exact zs_istore_n F (zdec_is hk) hl9 (KB _ _ _ _ h)
      · cases h
    · cases h
  case lstore k =>
    split at h
    · rename_i hl9
      split at h
      · exact zs_lstore F (zdec_is hk) hl9 (KB _ _ _ _ h)
      · cases h
    · cases h
  case lstore_n k =>
    split at h
    · rename_i hl9
      split at h
      · exact zs_lstore_n F (zdec_is hk) hl9 (KB _ _ _ _ h)
      · cases h
    · cases h
  case iinc k n =>
    split at h
    · rename_i hl9
      split at h
      · rename_i a hg; exact zs_iinc F (zdec_is hk) hl9 hg (KB _ _ _ _ h)
      · cases h
    · cases h
  case iconst n => exact zs_iconst F (zdec_is hk) (KB _ _ _ _ h)
  case bipush n => exact zs_bipush F (zdec_is hk) (KB _ _ _ _ h)
  case sipush n => exact zs_sipush F (zdec_is hk) (KB _ _ _ _ h)
  case lconst n => exact zs_lconst F (zdec_is hk) (KB _ _ _ _ h)
  case ldc x =>
    rw [Bool.and_eq_true] at hk
    exact zs_ldc F (hsub _ (zmem_in hk.2)) (zdec_is hk.1) (KB _ _ _ _ h)
  case ldc2_w x =>
    rw [Bool.and_eq_true] at hk
    exact zs_ldc2 F (hsub _ (zmem_in hk.2)) (zdec_is hk.1) (KB _ _ _ _ h)
  case aconst_null => exact zs_null F (zdec_is hk) (KB _ _ _ _ h)
  case pop =>
    split at h
    · split at h
      · rename_i hv; exact zs_pop F hv (zdec_is hk) (KB _ _ _ _ h)
      · cases h
    · cases h
  case dup =>
    split at h
    · split at h
      · rename_i hv; exact zs_dup F hv (zdec_is hk) (KB _ _ _ _ h)
      · cases h
    · cases h
  case dup2 =>
    split at h
    · split at h
      · rename_i hv; exact zs_dup2 F hv.1 hv.2 (zdec_is hk) (KB _ _ _ _ h)
      · cases h
    · cases h
  case iadd => split at h; exact zs_iadd F (zdec_is hk) (KB _ _ _ _ h); cases h
  case isub => split at h; exact zs_isub F (zdec_is hk) (KB _ _ _ _ h); cases h
  case imul => split at h; exact zs_imul F (zdec_is hk) (KB _ _ _ _ h); cases h
  case idiv =>
    split at h
    · split at h
      · cases h
      · rename_i h0; exact zs_idiv F h0 (zdec_is hk) (KB _ _ _ _ h)
    · cases h
  case irem =>
    split at h
    · split at h
      · cases h
      · rename_i h0; exact zs_irem F h0 (zdec_is hk) (KB _ _ _ _ h)
    · cases h
  case iand => split at h; exact zs_iand F (zdec_is hk) (KB _ _ _ _ h); cases h
  case ixor => split at h; exact zs_ixor F (zdec_is hk) (KB _ _ _ _ h); cases h
  case ishr => split at h; exact zs_ishr F (zdec_is hk) (KB _ _ _ _ h); cases h
  case ishl => split at h; exact zs_ishl F (zdec_is hk) (KB _ _ _ _ h); cases h
  case ineg => split at h; exact zs_ineg F (zdec_is hk) (KB _ _ _ _ h); cases h
  case i2l => split at h; exact zs_i2l F (zdec_is hk) (KB _ _ _ _ h); cases h
  case i2b => split at h; exact zs_i2b F (zdec_is hk) (KB _ _ _ _ h); cases h
  case ladd => split at h; exact zs_ladd F (zdec_is hk) (KB _ _ _ _ h); cases h
  case lmul => split at h; exact zs_lmul F (zdec_is hk) (KB _ _ _ _ h); cases h
  case lcmp => split at h; exact zs_lcmp F (zdec_is hk) (KB _ _ _ _ h); cases h
  case goto off =>
    rw [Bool.and_eq_true] at hk
    exact zs_goto F (of_decide_eq_true hk.2) (zdec_is hk.1) (KB _ _ _ _ h)
  case ifCond cc off =>
    rw [Bool.and_eq_true] at hk
    have ht := of_decide_eq_true hk.2
    have hd := zdec_is hk.1
    split at h
    · cases cc <;> dsimp only at h
      · exact zs_if_eq F ht hd (fun q => KB _ _ _ _ (by rw [if_pos q] at h; exact h)) (fun q => KB _ _ _ _ (by rw [if_neg q] at h; exact h))
      · exact zs_if_ne F ht hd (fun q => KB _ _ _ _ (by rw [if_neg q] at h; exact h)) (fun q => KB _ _ _ _ (by rw [if_pos q] at h; exact h))
      · exact zs_if_lt F ht hd (fun q => KB _ _ _ _ (by rw [if_pos q] at h; exact h)) (fun q => KB _ _ _ _ (by rw [if_neg q] at h; exact h))
      · exact zs_if_ge F ht hd (fun q => KB _ _ _ _ (by rw [if_pos q] at h; exact h)) (fun q => KB _ _ _ _ (by rw [if_neg q] at h; exact h))
      · exact zs_if_gt F ht hd (fun q => KB _ _ _ _ (by rw [if_pos q] at h; exact h)) (fun q => KB _ _ _ _ (by rw [if_neg q] at h; exact h))
      · exact zs_if_le F ht hd (fun q => KB _ _ _ _ (by rw [if_pos q] at h; exact h)) (fun q => KB _ _ _ _ (by rw [if_neg q] at h; exact h))
    · cases h
  case if_icmp cc off =>
    rw [Bool.and_eq_true] at hk
    have ht := of_decide_eq_true hk.2
    have hd := zdec_is hk.1
    split at h
    · cases cc <;> dsimp only at h
      · exact zs_icmp_eq F ht hd (fun q => KB _ _ _ _ (by rw [if_pos q] at h; exact h)) (fun q => KB _ _ _ _ (by rw [if_neg q] at h; exact h))
      · exact zs_icmp_ne F ht hd (fun q => KB _ _ _ _ (by rw [if_neg q] at h; exact h)) (fun q => KB _ _ _ _ (by rw [if_pos q] at h; exact h))
      · exact zs_icmp_lt F ht hd (fun q => KB _ _ _ _ (by rw [if_pos q] at h; exact h)) (fun q => KB _ _ _ _ (by rw [if_neg q] at h; exact h))
      · exact zs_icmp_ge F ht hd (fun q => KB _ _ _ _ (by rw [if_pos q] at h; exact h)) (fun q => KB _ _ _ _ (by rw [if_neg q] at h; exact h))
      · exact zs_icmp_gt F ht hd (fun q => KB _ _ _ _ (by rw [if_pos q] at h; exact h)) (fun q => KB _ _ _ _ (by rw [if_neg q] at h; exact h))
      · exact zs_icmp_le F ht hd (fun q => KB _ _ _ _ (by rw [if_pos q] at h; exact h)) (fun q => KB _ _ _ _ (by rw [if_neg q] at h; exact h))
    · cases h
  case ifnull off =>
    rw [Bool.and_eq_true] at hk
    split at h
    · exact zs_ifR F (zdec_is hk.1) (KB _ _ _ _ h)
    · exact zs_ifN F (of_decide_eq_true hk.2) (zdec_is hk.1) (KB _ _ _ _ h)
    · cases h
  case ifnonnull off =>
    rw [Bool.and_eq_true] at hk
    split at h
    · exact zs_ifnR F (of_decide_eq_true hk.2) (zdec_is hk.1) (KB _ _ _ _ h)
    · exact zs_ifnN F (zdec_is hk.1) (KB _ _ _ _ h)
    · cases h
  case tableswitch df lo hi offs =>
    simp only [Bool.and_eq_true, decide_eq_true_eq] at hk
    obtain ⟨⟨k1, k2⟩, k3⟩ := hk
    split at h
    · rename_i x r
      split at h
      · rename_i hx
        exact zs_tabO F hx k2 (zdec_is k1) (KB _ _ _ _ h)
      · rename_i hx
        split at h
        · rename_i t ht
          have h3 : (offs.toList.map (fun o => (pc : Int) + o))[(x.toInt - lo).toNat]? = some (Int.ofNat t) := by rw [k3, List.getElem?_map, ht]; rfl
          rw [List.getElem?_map] at h3
          cases ho : offs.toList[(x.toInt - lo).toNat]? with
          | none => rw [ho] at h3; cases h3
          | some off =>
            rw [ho] at h3
            rw [Array.getElem?_toList] at ho
            exact zs_tabI F (fun q => hx (Or.inl q)) (fun q => hx (Or.inr q)) ho (Option.some.inj h3) (zdec_is k1) (KB _ _ _ _ h)
        · cases h
    · cases h
  case getfield x =>
    rw [Bool.and_eq_true] at hk
    obtain ⟨k1, k2⟩ := hk
    split at k2
    · rename_i C T N hc
      simp only [Bool.and_eq_true, decide_eq_true_eq] at k2
      split at h
      · rename_i a r
        split at h
        · rename_i c n hkn
          split at h
          · rename_i hcr
            subst hcr
            exact zs_getf F hc k2.1 (hsub _ (zmem_in k2.2)) (zdec_is k1) hkn (KB _ _ _ _ h)
          · cases h
        · cases h
      · cases h
    · cases k2
  case putfield x =>
    rw [Bool.and_eq_true] at hk
    obtain ⟨k1, k2⟩ := hk
    split at k2
    · rename_i C T N hc
      simp only [Bool.and_eq_true, Bool.or_eq_true, Bool.not_eq_true', decide_eq_true_eq] at k2
      obtain ⟨⟨k2, k3⟩, k4⟩ := k2
      split at h
      · rename_i v a r
        split at h
        · rename_i c n hkn
          split at h
          · rename_i hcr
            obtain ⟨hcr, hna, hfi⟩ := hcr
            subst hcr
            split at h
            · rename_i σ1 hz1
              refine zs_putf F hc k2 (hsub _ (zmem_in k3)) ?_ (zdec_is k1) hkn hna hfi hz1 (KB _ _ _ _ h)
              rcases k4 with k4 | ⟨k4, k5⟩
              · exact Or.inl k4
              · cases hb : (T r2).2.2.2 with
                | false => exact Or.inl rfl
                | true => exact Or.inr ⟨rfl, O.2.2.2.2.2.2.1 k4, k5⟩
            · cases h
          · cases h
        · cases h
      · cases h
    · cases k2
  case getstatic x =>
    simp only [Bool.and_eq_true, Bool.or_eq_true, decide_eq_true_eq] at hk
    obtain ⟨⟨k1, k2⟩, k3⟩ := hk
    intro L rls H locs h1 h2 h3 h4
    obtain ⟨hx, hb, -, hown9, hts, hK, hA, hcl, hro⟩ := id F
    have hz := V.2.2.2.1 r1 k2
    have hm := h1.2.2.1
    have h6 := V.1
    have e : (xL0 X).getD r1 0 = L.getD r1 0 := (zget_pre h1.1 (by omega)).symm
    rw [e] at hz
    have k1' := KB _ _ _ _ h L rls H locs h1 h2 h3 (h4.cons (show r1 < L.length by have := h1.1.length_le; omega))
    rcases k3 with k3 | k3
    · exact va_gets hx hb hz h1.2.2.2.2.2.2.2.1 hown9 (hts _ (hsub _ (zmem_in k3))) (fun x h => h) (zdec_is k1) k1'
    · exact va_getsN hx hb hz h1.2.2.2.2.2.2.2.1 hown9 (va_Nw.use rfl (V.2.2.2.2.2.2.2.2.1 _ (zmeW_in k3))) (fun x h => h) (zdec_is k1) k1'
  case arraylength =>
    split at h
    · split at h
      · rename_i c n hkn
        split at h
        · rename_i hc
          exact zs_alen F hkn hc (zdec_is hk) (KB _ _ _ _ h)
        · cases h
      · cases h
    · cases h
  case iaload =>
    split at h
    · split at h
      · rename_i c n hkn
        split at h
        · rename_i hc
          exact zs_iald F hkn hc.1 hc.2 (zdec_is hk) (KB _ _ _ _ h)
        · cases h
      · cases h
    · cases h
  case iastore =>
    split at h
    · split at h
      · rename_i c n hkn
        split at h
        · rename_i hc
          obtain ⟨rfl, hi⟩ := hc
          exact zs_iast F hkn hi (zdec_is hk) (KB _ _ _ _ h)
        · cases h
      · cases h
    · cases h
  case aaload =>
    split at h
    · split at h
      · rename_i c n hkn
        split at h
        · rename_i hc
          exact zs_aald F hkn hc.1 hc.2 (zdec_is hk) (KB _ _ _ _ h)
        · cases h
      · cases h
    · cases h
  case aastore =>
    simp only [Bool.and_eq_true, decide_eq_true_eq] at hk
    obtain ⟨⟨k1, k2⟩, k3⟩ := hk
    split at k3
    · rename_i C T N hc
      have k3 := of_decide_eq_true k3
      subst k3
      split at h
      · split at h
        · rename_i c n cv nv hkn hkv
          split at h
          · rename_i hcc9
            obtain ⟨rfl, rfl, hi⟩ := hcc9
            exact zs_aast F hkn k2 hkv hc hi (zdec_is k1) (KB _ _ _ _ h)
          · cases h
        · cases h
      · cases h
    · cases k3
  case newarray ty =>
    simp only [Bool.and_eq_true, decide_eq_true_eq] at hk
    obtain ⟨⟨⟨rfl, k1⟩, rfl⟩, k3⟩ := hk
    split at h
    · rename_i n9 r9
      split at h
      · cases h
      · rename_i hn
        split at h
        · rename_i hm
          have h9 := hle _ _ _ _ _ _ _ h
          have g1 : znc σ + 1 ≤ znc σ' := h9.1
          have g2 : zns σ + n9.toNatClampNeg ≤ zns σ' := h9.2
          exact zs_newi F hn hm (hsub _ (zmem_in k3)) (zdec_is k1) (by omega) (by omega) (KB _ _ _ _ h)
        · cases h
    · cases h
  case anewarray x =>
    simp only [Bool.and_eq_true, decide_eq_true_eq] at hk
    obtain ⟨⟨k1, k2⟩, k3⟩ := hk
    split at h
    · rename_i n9 r9
      split at h
      · cases h
      · rename_i hn
        split at h
        · rename_i hm
          have h9 := hle _ _ _ _ _ _ _ h
          have g1 : znc σ + 1 ≤ znc σ' := h9.1
          have g2 : zns σ + n9.toNatClampNeg ≤ zns σ' := h9.2
          exact zs_newq F hn hm k2 (V.2.2.2.2.2.2.2.2.2.1.2 _ k2) (hsub _ (zmem_in k3)) (zdec_is k1) (by omega) (by omega) (KB _ _ _ _ h)
        · cases h
    · cases h
  case new x =>
    split at h
    · rename_i h0
      rw [if_pos h0, Bool.and_eq_true] at hk
      obtain ⟨k1, k2⟩ := hk
      split at k2
      · rename_i C T N hc
        have h9 := hle _ _ _ _ _ _ _ h
        have g1 : znc σ + 1 ≤ znc σ' := h9.1
        have g2 : zns σ + (xft X r1).length ≤ zns σ' := h9.2
        exact zs_new F hc (hsub _ (zmem_in k2)) (zdec_is k1) (by omega) (by omega) (KB _ _ _ _ h)
      · cases k2
    · rename_i h0
      rw [if_neg h0] at hk
      simp only [Bool.and_eq_true, Bool.or_eq_true, decide_eq_true_eq] at hk
      obtain ⟨⟨⟨⟨⟨⟨⟨⟨⟨k1, k2⟩, k3⟩, k4⟩, k5⟩, k6⟩, k7⟩, k8⟩, k9⟩, k10⟩ := hk
      obtain ⟨text, k7⟩ := zstrB_is k7
      subst k6
      obtain ⟨e1, e2, e3, e4⟩ := hE r1 k5
      split at h
      · cases h
        refine zs_throw F V O e1 (by rw [k4]; exact e2) e3 (by rw [k4]; exact k7) (by rw [k4]; exact e4) k8 (zdec_is k1) (zdec_is k2) ?_ k9 k10 hQ hr1 hr2
        rcases k3 with ⟨⟨d1, d2⟩, d3⟩ | ⟨⟨d1, d2⟩, d3⟩
        · exact Or.inl ⟨zdec_is d1, zdec_is d2, zdec_is d3⟩
        · exact Or.inr ⟨zdec_is d1, zdec_is d2, zdec_is d3⟩
      · cases h
  case ireturn =>
    split at h
    · rename_i x ty hty
      split at h
      · rename_i hn
        cases h
        exact zs_iret F hQ O.2.2.2.2.1 (O.2.2.2.2.2.1.trans hty) hn (zdec_is hk) hr1 hr2
      · cases h
    · cases h
  case lreturn =>
    simp only [Bool.and_eq_true, decide_eq_true_eq] at hk
    split at h
    · cases h
      exact zs_lret F hQ O.2.2.2.2.1 (O.2.2.2.2.2.1.trans hk.2) (zdec_is hk.1) hr1 hr2
    · cases h
  case areturn =>
    rw [Bool.and_eq_true] at hk
    obtain ⟨k1, k2⟩ := hk
    split at k2
    · rename_i C hC
      split at h
      · rename_i a
        cases h
        exact zs_aret F (Or.inr ⟨a, rfl⟩) hQ O.2.2.2.2.1 (O.2.2.2.2.2.1.trans hC) (zdec_is k1) hr1 hr2
      · cases h
        exact zs_aret F (Or.inl rfl) hQ O.2.2.2.2.1 (O.2.2.2.2.2.1.trans hC) (zdec_is k1) hr1 hr2
      · cases h
    · cases k2
  case return_ =>
    simp only [Bool.and_eq_true, decide_eq_true_eq] at hk
    split at h
    · cases h
      exact zs_vret F hQ O.2.2.2.2.1 (O.2.2.2.2.2.1.trans hk.2) (zdec_is hk.1) hr1 hr2
    · cases h
  case invokestatic x =>
    simp only [Bool.and_eq_true, Bool.or_eq_true, decide_eq_true_eq] at hk
    obtain ⟨⟨⟨k1, k2⟩, k3⟩, k4⟩ := hk
    obtain ⟨k2, k5⟩ := zcdB_is k2 (hmk r1)
    split at h
    · rename_i hlow
      split at h
      · rename_i hlen
        cases hq : rec r1 0 (zfst (st.take r2).reverse (zmL (P r1))) [] σ with
        | none => rw [hq] at h; cases h
        | some q =>
          obtain ⟨o1, σ1⟩ := q
          rw [hq] at h
          have g0 := zback_le hle h
          have g1 := hle _ _ _ _ _ _ _ hq
          have hst : st = (st.take r2).reverse.reverse ++ st.drop r2 := by rw [List.reverse_reverse, List.take_append_drop]
          rw [hst]
          have hlv : ((st.take r2).reverse).length = r2 := by rw [List.length_reverse]; exact hlen.1
          refine zs_S F V O (hM r1 _ σ o1 σ1 hq hlen.2 k5) (by rw [hlv]; exact k2) (zmem_in k3) ?_ (zlow_is hlow) (zdec_is k1) g1 (by have := g0.1; omega) (by have := g0.2; omega) (fun v hv => ?_) (fun E hE9 => ?_)
          · rcases k4 with k4 | ⟨k4, k6⟩
            · exact Or.inl (zmem_in k4)
            · exact Or.inr ⟨_, zmeW_in k4, k6⟩
          · subst hv
            exact KB _ _ _ _ h
          · subst hE9
            exact zback_hd Hy F V O hQ hr1 hr2 hle KB rfl h
      · cases h
    · cases h
  case invokevirtual x =>
    split at h
    · rename_i h0
      subst h0
      split at h
      · rename_i xr b rest
        split at h
        case isFalse => cases h
        rename_i hlw
        split at h
        · rename_i w σ1 hro9
          have g0 := hle _ _ _ _ _ _ _ h
          exact hrow X y pc x r1 r2 tg ls b xr rest σ _ σ1 hin F O rfl rfl V hro9 hlw (by have := g0.1; omega) (by have := g0.2; omega) (fun w9 hw => by cases hw; exact KB _ _ _ _ h) (fun E hE9 => by cases hE9)
        · rename_i E σ1 hro9
          have g0 := zback_le hle h
          exact hrow X y pc x r1 r2 tg ls b xr rest σ _ σ1 hin F O rfl rfl V hro9 hlw (by have := g0.1; omega) (by have := g0.2; omega) (fun w9 hw => by cases hw) (fun E9 hE9 => by cases hE9; exact zback_hd Hy F V O hQ hr1 hr2 hle KB rfl h)
        · cases h
      · cases h
    · rename_i h0
      rw [if_neg h0] at hk
      simp only [Bool.and_eq_true, decide_eq_true_eq] at hk
      obtain ⟨⟨⟨⟨⟨⟨k1, k2⟩, k3⟩, k4⟩, k5⟩, k6⟩, k7⟩ := hk
      obtain ⟨k2, k8⟩ := zcdB_is k2 (hmk r1)
      split at k7
      · rename_i C T N hc
        have k7 := of_decide_eq_true k7
        subst k7
        split at h
        · rename_i b rest hdr
          split at h
          · rename_i hlow
            split at h
            · rename_i c n hkn
              split at h
              · rename_i hcr
                subst hcr
                split at h
                · rename_i hlen
                  cases hq : rec r1 0 (zfst (.ref b :: (st.take r2).reverse) (zmL (P r1))) [] σ with
                  | none => rw [hq] at h; cases h
                  | some q =>
                    obtain ⟨o1, σ1⟩ := q
                    rw [hq] at h
                    have g0 := zback_le hle h
                    have g1 := hle _ _ _ _ _ _ _ hq
                    have hst : st = (st.take r2).reverse.reverse ++ (.ref b :: rest) := by rw [List.reverse_reverse, ← hdr, List.take_append_drop]
                    rw [hst]
                    have hlv : ((st.take r2).reverse).length = r2 := by rw [List.length_reverse]; exact hlen.1
                    refine zs_V F V O (hM r1 _ σ o1 σ1 hq hlen.2 k8) (by rw [hlv]; exact k2) k3 hkn hc (zmem_in k4) (zmem_in k5) (zmem_in k6) (zlow_is hlow) (zdec_is k1) g1 (by have := g0.1; omega) (by have := g0.2; omega) (fun v hv => ?_) (fun E hE9 => ?_)
                    · subst hv
                      exact KB _ _ _ _ h
                    · subst hE9
                      exact zback_hd Hy F V O hQ hr1 hr2 hle KB rfl h
                · cases h
              · cases h
            · cases h
          · cases h
        · cases h
      · cases k7
  case invokespecial x =>
    split at h
    · rename_i b rest hdr
      split at h
      · rename_i h0
        rw [if_pos h0] at hk
        simp only [Bool.and_eq_true, decide_eq_true_eq] at hk
        obtain ⟨⟨⟨k1, k2⟩, k3⟩, k4⟩ := hk
        split at h
        · rename_i hr0
          obtain ⟨rfl, hlow⟩ := hr0
          have hst : st = .ref b :: rest := hdr
          rw [hst]
          exact zs_O F O (zmem_in k2) hO.1 hO.2 k3 k4 (zlow_is hlow) (zdec_is k1) (KB _ _ _ _ h)
        · cases h
      · rename_i h0
        rw [if_neg h0] at hk
        simp only [Bool.and_eq_true, Bool.or_eq_true, decide_eq_true_eq] at hk
        obtain ⟨⟨⟨⟨⟨⟨k1, k2⟩, k3⟩, k4⟩, k5⟩, k6⟩, k7⟩ := hk
        obtain ⟨k2, k8⟩ := zcdB_is k2 (hmk r1)
        split at h
        · rename_i hlow
          split at h
          · rename_i c n hkn
            split at h
            · split at h
              · rename_i hlen
                cases hq : rec r1 0 (zfst (.ref b :: (st.take r2).reverse) (zmL (P r1))) [] σ with
                | none => rw [hq] at h; cases h
                | some q =>
                  obtain ⟨o1, σ1⟩ := q
                  rw [hq] at h
                  have g0 := zback_le hle h
                  have g1 := hle _ _ _ _ _ _ _ hq
                  have hst : st = (st.take r2).reverse.reverse ++ (.ref b :: rest) := by rw [List.reverse_reverse, ← hdr, List.take_append_drop]
                  rw [hst]
                  have hlv : ((st.take r2).reverse).length = r2 := by rw [List.length_reverse]; exact hlen.1
                  refine zs_I F V O (hM r1 _ σ o1 σ1 hq hlen.2 k8) (by rw [hlv]; exact k2) k3 k4 k5 (zmem_in k6) ?_ (zlow_is hlow) (zdec_is k1) g1 (by have := g0.1; omega) (by have := g0.2; omega) (fun v hv => ?_) (fun E hE9 => ?_)
                  · rcases k7 with k7 | k7
                    · exact Or.inl (zmem_in k7)
                    · exact Or.inr ⟨_, zmeW_in k7⟩
                  · subst hv
                    exact KB _ _ _ _ h
                  · subst hE9
                    exact zback_hd Hy F V O hQ hr1 hr2 hle KB rfl h
              · cases h
            · cases h
          · cases h
        · cases h
    · cases h
theorem zx_sim (Hy : zHyp l Y P zic ro) : ∀ (n : Nat) (X : zX) (y pc : Nat) (ls : zLs) (st : List Value) (σ : zS) (o : zO) (σ' : zS), zFix X → zOn (P y) X → xl X = l → xY X = Y → zVx X → xQ X = zQ X o σ' → znc σ' - xnc X ≤ (xR X).cells → zns σ' - xns X ≤ (xR X).slots → zx P Y.1.2.2.1 ro n y pc ls st σ = some (o, σ') → zC X pc ls st σ
  | 0, _, _, _, _, _, _, _, _, _, _, _, _, _, _, _, _, h => by cases h
  | n + 1, X, y, pc, ls, st, σ, o, σ', F, O, hl, hY, V, hQ, hr1, hr2, h => by
    have ih := zx_sim Hy n
    unfold zx at h
    split at h
    · cases h
    · rename_i e hlk
      refine zst_sim Hy F V O hl hY hQ hr1 hr2 (fun y pc ls st σ o σ' hq => zx_le Hy.2.2.2.2.2.2.2.1 hq) (fun pc ls st σ hq => ih X y pc ls st σ o σ' F O hl hY V hQ hr1 hr2 hq) (fun y1 vs σ1 o1 σ2 hq hlen hpl => ?_) (zlk_in hlk) h
      refine zmet_of Hy.1 hlen hpl Hy.2.1 fun X1 F1 O1 hl1 hY1 V1 hn1 hn2 hc1 hc2 hQ1 => ?_
      exact ih X1 y1 0 _ [] σ1 o1 σ2 F1 O1 hl1 hY1 V1 hQ1 (by rw [hn1, hc1]; exact Nat.le_refl _) (by rw [hn2, hc2]; exact Nat.le_refl _) hq
end ZALL
