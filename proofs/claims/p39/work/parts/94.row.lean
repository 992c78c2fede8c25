/-! a row's length -/
/-- what the two places that ask for it must be -/
def zrkE (q : zM) (e : Nat × zI) : Bool := match e.2 with
  | (.invokevirtual x, _, _, r3, _) => r3 != 2000 || (decide ((zmN q).cls = "SiegelinesLaw") && (x == 34 && (decide (decode (zmB q) e.1 = .ok (.invokevirtual 34, 3)) && (decide (decode (zmB q) (e.1 + 3) = .ok (.invokevirtual 38, 3)) && (decide (7 ≤ zmF q) && decide (174 ≤ zmW q))))))
  | _ => true
set_option maxRecDepth 100000 in
theorem zrk_all : zProg.all (fun q => (zmC q).all (zrkE q)) = true := by decide +kernel
theorem zrow_at {y pc x r1 r2 : Nat} {tg : List Nat} (h : (pc, ((.invokevirtual x, r1, r2, 2000, tg) : zI)) ∈ zmC (zP y)) : (zmN (zP y)).cls = "SiegelinesLaw" ∧ x = 34 ∧ decode (zmB (zP y)) pc = .ok (.invokevirtual 34, 3) ∧ decode (zmB (zP y)) (pc + 3) = .ok (.invokevirtual 38, 3) ∧ 7 ≤ zmF (zP y) ∧ 174 ≤ zmW (zP y) := by
  have hne : zmC (zP y) ≠ [] := fun hh => by rw [hh] at h; cases h
  have h1 := List.all_eq_true.mp zrk_all (zP y) (zP_in y hne).1
  have h2 : zrkE (zP y) (pc, ((.invokevirtual x, r1, r2, 2000, tg) : zI)) = true := List.all_eq_true.mp h1 _ h
  have h3 : (decide ((zmN (zP y)).cls = "SiegelinesLaw") && (x == 34 && (decide (decode (zmB (zP y)) pc = .ok (.invokevirtual 34, 3)) && (decide (decode (zmB (zP y)) (pc + 3) = .ok (.invokevirtual 38, 3)) && (decide (7 ≤ zmF (zP y)) && decide (174 ≤ zmW (zP y))))))) = true := h2
  simp only [Bool.and_eq_true, decide_eq_true_eq, beq_iff_eq] at h3
  exact h3
theorem zC_go {X : zX} {pc : Nat} {ls : zLs} {st : List Value} {σ : zS} (K : zC X pc ls st σ) {L : List Nat} {rls : Array Slot} {H : Heap} {locs : List Loc} (h1 : zRel X L σ H locs) (h2 : zlv L rls (xnL X) ls) (h3 : zlo L.length ls) (h4 : zso L.length st) {c9 s9 : Nat} (e1 : c9 = znc σ - xnc X) (e2 : s9 = zns σ - xns X) : W (xp X) (xl X) (xe X) (xR X) (xs X) (xm X) (xa X) (xb X) (xme X) (xc X) H locs c9 s9 (xQ X) (F0 (xm X) pc rls (st.map (zt L))) := by
  subst e1
  subst e2
  exact K L rls H locs h1 h2 h3 h4
set_option maxHeartbeats 4000000 in
/-- no such row -/
theorem zrow_thr {l : Launch} {Y : zY} (hl : l.stackTraces = false) (e1 : Y.1.2.1 = zCl) (e2 : Y.1.2.2.1 = zFt) {L0 : Nat} {K9 : zK} {s : zJ} {R : Nat → Nat → Option Nat} {G : Nat → Nat → Int64} {nc ns : Nat} {g : Nat → Int} {U F0' T B ph : Int} (S : zSR R) (V : zV g U F0' T B ph s) {k : Int} (hr : -2147483648 ≤ k ∧ k < 2147483648) (hk : k < 0 ∨ g 1 ≤ k) : zMet l Y (fun _ => zm_row) 0 [.ref 6, .int (Int32.ofInt k)] (zN L0 K9 (zhi s) R G nc ns) (.inr 43) (zthr (zN L0 K9 (zhi s) R G nc ns)) := by
  have hg := zA_geo (zV_zA V)
  have Hy := zhyp_no hl e1 e2
  refine zmet_of (P := fun _ => zm_row) hl (Nat.le_of_ble_eq_true rfl) (by decide +kernel) (by rw [e1, e2]; exact zCls_ok) ?_
  intro X F O hl1 hY V9 hn1 hn2 hr1 hr2 hQ
  have O : zOn zm_row X := O
  have ecc : xcc X = zmB zm_row := O.1
  have eow : xown X = "Siegelines" := O.2.2.1
  have hsub : ∀ w ∈ zTb, w ∈ xTs X := fun w hw => by rw [O.2.2.2.1]; exact List.mem_cons_of_mem _ hw
  have ecl : xcl X = zCl := by rw [← e1, ← hY]
  have eft : xft X = zFt := by rw [← e2, ← hY]
  obtain ⟨f1, f2, f3, f4⟩ := Hy.2.2.2.2.2.1 43 (Or.inr (Or.inl rfl))
  have h18 : ∀ ls : zLs, zC X 18 ls [] (zN L0 K9 (zhi s) R G nc ns) := fun ls =>
    zs_throw F V9 O (E := 43) (ik := 56) (is := 367) (ic := 60) (text := "no such row") f1 (by rw [eow]; exact f2) f3 (by rw [eow]; decide +kernel) (by rw [eow]; exact f4) rfl (by rw [ecc]; decide +kernel) (by rw [ecc]; decide +kernel) (Or.inr ⟨by rw [ecc]; decide +kernel, by rw [ecc]; decide +kernel, by rw [ecc]; decide +kernel⟩) (by decide) (by decide) hQ (by rw [hn1, hr1]; exact Nat.le_refl _) (by rw [hn2, hr2]; exact Nat.le_refl _)
  show zC X 0 [some (.ref 6), some (.int (Int32.ofInt k)), none, none] [] _
  refine zs_iload_n F (k := 1) (by rw [ecc]; decide +kernel) rfl ?_
  refine zs_if_lt F (t := 18) (off := 17) (by decide) (by rw [ecc]; decide +kernel) (fun q => h18 _) (fun q => ?_)
  refine zs_iload_n F (k := 1) (by rw [ecc]; decide +kernel) rfl ?_
  refine zs_aload_n F (k := 0) (by rw [ecc]; decide +kernel) rfl ?_
  refine zs_getv F (idx := 10) (k := 0) (n := 2) (j := 0) (N := 2) (C := "Siegelines") (T := F_Main) (v := .ref 7) (by rw [ecl]; rfl) (by decide) (by rw [eow]; exact hsub _ (zat_t (by decide +kernel))) (by rw [ecc]; decide +kernel) rfl (by rw [eft]; exact zr_6_0 S) ?_
  refine zs_getv F (idx := 38) (k := 1) (n := 17) (j := 0) (N := 17) (C := "Siegelines$Siege") (T := F_Siege) (v := .ref 8) (by rw [ecl]; rfl) (by decide) (by rw [eow]; exact hsub _ (zat_t (by decide +kernel))) (by rw [ecc]; decide +kernel) rfl (by rw [eft]; exact zr_7_0 S) ?_
  refine zs_getv F (idx := 364) (k := 2) (n := 14) (j := 10) (N := 14) (C := "Siegelines$Ground") (T := F_Ground) (v := .int (zhi s 8 10)) (by rw [ecl]; rfl) (by decide) (by rw [eow]; exact hsub _ (zat_t (by decide +kernel))) (by rw [ecc]; decide +kernel) rfl (by rw [eft]; rfl) ?_
  refine zs_icmp_lt F (t := 29) (off := 14) (by decide) (by rw [ecc]; decide +kernel) (fun q9 => ?_) (fun q9 => h18 _)
  exfalso
  have q9 : Int32.ofInt k < Int32.ofInt (s 8 10) := q9
  rw [hg.1.2.1, zj_lt (by omega) (by omega)] at q9
  rw [show (0 : Int32) = Int32.ofInt 0 from rfl, zj_lt (by omega) (by decide)] at q
  omega
set_option maxHeartbeats 4000000 in
theorem zrow_ok {l : Launch} {Y : zY} (hl : l.stackTraces = false) (e1 : Y.1.2.1 = zCl) (e2 : Y.1.2.2.1 = zFt) : zRow l Y zP zro := by
  intro X y pc x r1 r2 tg ls m r rest σ o σ1 hmem F O hl1 hY V hro hlow hr1 hr2 K1 K2
  obtain ⟨a1, rfl, d1, d2, a5, a6⟩ := zrow_at hmem
  have hlow : (rest.map fun v => v.category).sum ≤ 8 := of_decide_eq_true hlow
  by_cases hc : zGood σ ∧ m = 6
  case neg =>
    unfold zro at hro
    rw [if_neg hc] at hro
    cases hro
  obtain ⟨⟨L0, K9, s, R, G, nc, ns, g, U, F0', T0, B, ph, rfl, S, V9⟩, rfl⟩ := hc
  obtain ⟨k, hk, rfl⟩ := zj_w r
  rw [zro_at S V9 hk] at hro
  have hsubT := zs_sub F O
  have ecl : xcl X = zCl := by rw [← e1, ← hY]
  by_cases c : k < 0 ∨ g 1 ≤ k
  · rw [if_pos c] at hro
    cases hro
    show zC X pc ls ([.int (Int32.ofInt k)].reverse ++ .ref 6 :: rest) _
    exact zs_V F V O (idx := 34) (P := fun _ => zm_row) (y := 0) (k := 0) (n := 2) (N := 2) (T := F_Main) (by rw [hl1, hY]; exact zrow_thr hl e1 e2 S V9 hk c) ⟨zat_t (by decide +kernel), zat_t (by decide +kernel), ⟨by decide +kernel, by decide +kernel, (show (parseMethodDescriptor (zmN zm_row).desc).map (fun d => d.parameters.length) = some 1 from by decide +kernel)⟩, a5, by show 8 + (4 + 11) + 151 ≤ _; omega⟩ rfl rfl (by rw [ecl]; rfl) (zat_t (by decide +kernel)) (zat_t (by decide +kernel)) (by rw [O.2.2.1, a1]; exact zat_t (by decide +kernel)) hlow (by rw [O.1]; exact d1) ⟨Nat.le_succ _, Nat.le_add_right _ _⟩ hr1 hr2 (fun v hv => by cases hv) (fun E hE => by cases hE; exact K2 43 rfl)
  · rw [if_neg c] at hro
    cases hro
    have hg := zA_geo (zV_zA V9)
    have hwd : Int32.ofInt (g 0) = nI (g 0).toNat := zwd_of (by omega)
    have K1 := K1 _ rfl
    rw [hwd] at K1
    subst hY
    subst hl1
    intro L rls H locs h1 h2 h3 h4
    obtain ⟨D, cB, hK9⟩ := zb_known hsubT
    obtain ⟨kv, XB⟩ := zX_zbK F V O hK9
    obtain ⟨hx, hb, hml, hown, hts, hK, hA, hcls, hrr⟩ := id F
    have c1 := h1.2.2.2.2.2.2.2.2.2.1
    have c2 := h1.2.2.2.2.2.2.2.2.2.2
    obtain ⟨b1, b2, b3, b4, b5⟩ := zs_cbA F O (q := zm_row) (n := 1) (mc := 16) (ms := 400) ⟨zat_t (by decide +kernel), zat_t (by decide +kernel), ⟨by decide +kernel, by decide +kernel, (show (parseMethodDescriptor (zmN zm_row).desc).map (fun d => d.parameters.length) = some 1 from by decide +kernel)⟩, a5, by show 8 + (4 + 11) + 151 ≤ _; omega⟩
    have hcl : (xcl X)[0]? = some ((zmN zm_row).cls, F_Main, 2) := by rw [ecl]; rfl
    obtain ⟨q1, -⟩ := hcls 0 _ F_Main 2 hcl
    have hb0 : (zN L0 K9 (zhi s) R G nc ns).1[6]? = some (0, 2) := rfl
    have hp9 := h1.lt hb0 (by omega)
    have hz := zw_at (ft := xft X) (cA := xcA X) (L := L) hp9.1 hp9.2
    rw [ze_obj hb0 q1] at hz
    have hvb : zso L.length [.ref 6, .int (Int32.ofInt k)] := fun v hv => h4 v (by
      rcases List.mem_cons.mp hv with rfl | hv
      · exact List.mem_cons_of_mem _ List.mem_cons_self
      · rcases List.mem_singleton.mp hv with rfl
        exact List.mem_cons_self)
    have hp : PreV (xs X) H (zmN zm_row).cls (L.getD 6 0) (zPk (xY X) D cB L (zN L0 K9 (zhi s) R G nc ns) H.size [.ref 6, .int (Int32.ofInt k)]) ([.int (Int32.ofInt k)].map (zt L)) := ⟨zPk_blind _ _ _ _ _ _ _, va_recv hK h1.2.2.2.2.2.1 hcl hz, fun U hU hW => ⟨zs_pre F V h1 hvb U hU hW, va_K.moved hW.alike hK9⟩⟩
    have ez := zcw_no (q := zm_row) rfl
    rw [ez] at b1 b2
    have hr1' : nc + 16 - xnc X ≤ (xR X).cells := hr1
    have hr2' : ns + 400 - xns X ≤ (xR X).slots := hr2
    have c1' : xnc X ≤ nc := c1
    have c2' : xns X ≤ ns := c2
    have hr := vx_runV (g := F0 (xm X) pc rls (.int (Int32.ofInt k) :: .ref (L.getD 6 0) :: rest.map (zt L))) (rest := rest.map (zt L)) (cells := nc - xnc X) (slots := ns - xns X) (locs := locs) (l := xl X) (p := xp X) (e := xe X) (below := xb X) (meth := xme X) ⟨hx, hb, hml, hown, hts⟩ (zrow_met hl e1 e2 S V9 (k := k) (by omega) D cB L H.size) ⟨⟨b1.1, b1.2.1, b1.2.2.1, b1.2.2.2.1, b1.2.2.2.2.1, b1.2.2.2.2.2, b2, b3, b4, b5, by rw [O.2.2.1, a1]; exact hsubT _ (zat_t (by decide +kernel))⟩, hsubT _ (zat_t (by decide +kernel)), hsubT _ (zat_t (by decide +kernel))⟩ hp rfl rfl h2.1 rfl (lv_room (zs_low hlow)) (show decode (xcc X) pc = .ok (.invokevirtual 34, 3) from by rw [O.1]; exact d1) ⟨by omega, by omega⟩
    have hfr := h1.free F
    intro T hT XX
    rcases hr T hT XX with ⟨v, st₀, t, T', Ls, h0, X', hL, g1, g2, ⟨⟨Lf, sa, va, f1, hv, hE, hPs, hDs, hs1, hs2⟩, hF⟩, hst⟩ | ⟨q, st₀, t, T', Ls, E, ce, h0, X', hL, g1, g2, hx9, -⟩
    · obtain ⟨k1, k2, k3⟩ := vx_keep h0 g1 h1.2.2.2.2.2.2.2.1 (fun q _ h => hfr q h) hfr hL hF
      have hLf : L = Lf := hE.1.eq_of_length (h1.2.1.trans hE.2.1.symm)
      subst hLf
      have hv : v = some (.ref sa) := by injection hv
      subst hv
      obtain ⟨z1, z2, z3, z4, z5, z6, z7⟩ := hE
      rw [h0] at hs1 hs2
      have hh : zRel X L (zN L0 K9 (zhi s) R G (nc + 16) (ns + 400)) T'.heap (locs ++ Ls) := ⟨h1.1, h1.2.1, h1.2.2.1, z3, z4, by rw [g1]; exact z5, h1.2.2.2.2.2.2.1, k3, z7, Nat.le_trans c1' (Nat.le_add_right _ _), Nat.le_trans c2' (Nat.le_add_right _ _)⟩
      have hR : xR X = zrm (zP y) (xR X).cells (xR X).slots := zR_eta O.2.2.2.2.2.2.2.2.1 O.2.2.2.2.2.2.2.2.2.1
      have hsL : (Cond.selects "java/lang/String" (zmN zj_sLen) (zmN zj_sLen)).before (xa X) (xs X) = true := hsubT _ (zat_t (by decide +kernel))
      have kk : zWX X T'.heap (locs ++ Ls) (nc - xnc X + 16) (ns - xns X + 400) (F0 (xm X) (pc + 3) rls (.ref sa :: rest.map (zt L))) := by
        refine zb_V (q := zj_sLen) (vs := []) (rest := rest.map (zt L)) XB hR (zjt_sLen (show (g 0).toNat < 16 by omega)) ⟨zat_t (by decide +kernel), zat_t (by decide +kernel), (by rw [a1]; exact zat_t (by decide +kernel)), rfl, ⟨by decide +kernel, by decide +kernel⟩, (show (parseMethodDescriptor (zmN zj_sLen).desc).map (fun d => d.parameters.length) = some 0 from by decide +kernel), (by show 1 + 1 ≤ _; omega), (by show 8 + (1 + 11) + 20 ≤ _; omega)⟩ (zat_t (by decide +kernel)) hsL 0 rfl rfl ⟨by omega, by omega⟩ (zs_low hlow) d2 (h2.1.trans O.2.1) (by rw [g1]; exact hPs) (hDs.weaken (fun _ z _ h => hfr z.1 h)) k3 rfl ?_
        intro v9 w9 H3 locs3 h9 hP3 hD3 hS3 hq3
        obtain ⟨rfl, rfl⟩ := h9
        refine zC_go (σ := zN L0 K9 (zhi s) R G (nc + 16) (ns + 400)) (st := .int (nI (g 0).toNat) :: rest) K1 (hh.mw (fun i q hi => ?_) hS3) h2 h3 (fun v hv => ?_) (by show nc - xnc X + 16 + 0 = nc + 16 - xnc X; omega) (by show ns - xns X + 400 + 0 = ns + 400 - xns X; omega)
        · have hlt : q.1 < H.size := (h1.2.2.2.2.2.1 i q hi).lt
          refine hq3.2.1 q.1 (Nat.lt_of_lt_of_le hlt k1) (fun hz9 => ?_)
          rcases hz9 with ⟨i9, e, hi9⟩ | hz9
          · match i9, hi9 with
            | 0, hi9 => cases hi9; omega
            | 1, hi9 => cases hi9; omega
            | z + 2, hi9 => cases hi9
          · omega
        · rcases List.mem_cons.mp hv with rfl | hv
          · trivial
          · exact h4 v (List.mem_cons_of_mem _ (List.mem_cons_of_mem _ hv))
      obtain ⟨t2, a9, b9⟩ := kk T' rfl X'
      exact ⟨t2, hst t2 a9, b9⟩
    · exact hx9.elim
