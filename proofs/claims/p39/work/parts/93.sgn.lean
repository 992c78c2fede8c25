/-! a sign of the map: Siegelines.signOf -/
def zm_sign : zM := (⟨"Siegelines", "signOf", "(I)C"⟩, prog_1_method_45_code, 5, some .char, [], [], 4, 85)
theorem zb_known {s : State} {args : Array Value} (hts : ∀ w ∈ zTb, w.before args s = true) : ∃ (D : va_G) (cB : ClassId), va_K D zbC [(cB, .byte)] s := by
  obtain ⟨c0, k0, comp0, a1, a2, a3⟩ := Cond.arrayClass_spec (hts (Cond.arrayClass .byte) (zat_t (by decide +kernel)))
  obtain ⟨cC, iC, hC⟩ := u_known (C := "java/lang/StringBuilder") (T := zTB) (N := 4) hts zu_B (hts (Cond.instantiable "java/lang/StringBuilder" 4) (zat_t (by decide +kernel)))
  obtain ⟨cS, iS, hS⟩ := u_known (C := "java/lang/String") (T := zTS) (N := 4) hts zu_S (hts (Cond.instantiable "java/lang/String" 4) (zat_t (by decide +kernel)))
  refine ⟨(fun k => if k = 0 then cC else cS, fun k => if k = 0 then iC else iS), c0, fun k q hq => ?_, fun k q hq => ?_⟩
  · match k, hq with
    | 0, hq => cases hq; exact hC
    | 1, hq => cases hq; exact hS
    | n + 2, hq => cases hq
  · match k, hq with
    | 0, hq => cases hq; exact ⟨fun n z => ⟨fun k h => (by cases h), k0, a2, comp0, a3⟩, a1⟩
    | n + 1, hq => cases hq
theorem zRel.mv {X : zX} {L : List Nat} {σ : zS} {H H1 : Heap} {locs locs1 : List Loc} (h : zRel X L σ H locs) (hq : ∀ z : Nat, z < H.size → H1[z]? = H[z]?) (hS : va_S (xA X) (xs X).heap H1 locs1) : zRel X L σ H1 locs1 := by
  obtain ⟨r1, r2, r3, r4, r5, r6, r7, r8, r9, r10, r11⟩ := h
  exact ⟨r1, r2, r3, r4, r5, fun k q hk => (r6 k q hk).kept (hq q.1 (r6 k q hk).lt), r7, hS, r9, r10, r11⟩
theorem zX_zbX {X : zX} (F : zFix X) (V : zVx X) {q : zM} (O : zOn q X) : ∃ (kv : (Nat → Nat) × (Nat → Nat)) (D : va_G) (cB : ClassId), vk_R "Siegelines" 566 ".#~Tc=/u" (kv.1 0) (xs X) ∧ zbX q kv D cB (xp X) (xs X) (xm X) (xa X) (xme X) (xc X) (xA X) := by
  obtain ⟨D, cB, hK⟩ := zb_known (zs_sub F O)
  obtain ⟨a0, a1, a2, ka, va, a3, a4⟩ := V.2.2.2.2.2.2.2.2.2.1.1
  refine ⟨(ka, va), D, cB, a3, F.1, ?_, ?_, ?_, zs_sub F O, hK, F.2.2.2.2.2.2.1, ⟨a1, a2, a4, a0⟩, O.2.2.2.2.2.1, O.2.2.2.2.1, O.2.2.2.2.2.2.1⟩
  · rw [← O.1]; exact F.2.1
  · rw [← O.2.1]; exact F.2.2.1
  · rw [← O.2.2.1]; exact F.2.2.2.1
theorem zR_eta {R : Room} {q : zM} (h1 : R.frames = zmF q) (h2 : R.locals = zmW q) : R = zrm q R.cells R.slots := by
  cases R
  dsimp only at h1 h2
  subst h1
  subst h2
  rfl
theorem zb_ldcW {p : Program} {l : Launch} {e : Env} {R : Room} {s : State} {m : MethodId} {args : Array Value} {below : List Frame} {meth : Method} {c : Code} {H : Heap} {locs : List Loc} {cells slots : Nat} {Q : State → Prop} {cc : ByteArray} {pc : Nat} {ls : Array Slot} {rest : List Value} (hexec : p.tables.exec = Jvm.exec) (hb : c.code = cc) {own tx : String} {index q : Nat} (hown : s.vm.findClass own = some m.cls) (hZ : vk_R own index tx q s) (hdg : decode cc pc = .ok (.ldc_w index, 3))
    (k : W p l e R s m args below meth c H locs cells slots Q (F0 m (pc + 3) ls (.ref q :: rest))) : W p l e R s m args below meth c H locs cells slots Q (F0 m pc ls rest) := by
  intro T hT X
  obtain ⟨t, a1, b1⟩ := k T hT X
  exact ⟨t, X.ldcStringW hexec hown (text := tx) (a := q) hZ.1 hZ.2 (g := F0 m pc ls rest) rfl (by rw [hb]; exact hdg) t a1, b1⟩
section ZSG
variable {X : zX} {pc : Nat} {ls : zLs} {st : List Value} {σ : zS}
theorem zs_getv (F : zFix X) {idx a k n j N : Nat} {C : String} {T : u_T} {v : Value} (hc : (xcl X)[k]? = some (C, T, N)) (hj : j < N) (hl : Cond.fieldLink (xown X) idx (T j).1 (T j).2.1 (T j).2.2.1 ∈ xTs X) (d : decode (xcc X) pc = .ok (.getfield idx, 3)) (hk : σ.1[a]? = some (k, n)) (hv : zfv ((xft X k).getD j .int) σ a j = v) (K : zC X (pc + 3) ls (v :: st) σ) : zC X pc ls (.ref a :: st) σ := by
  subst hv
  exact zs_getf F hc hj hl d hk K
/-- a call without a world of its own -/
theorem zC_mv (K : zC X pc ls st σ) {L : List Nat} {rls : Array Slot} {H H1 : Heap} {locs locs1 : List Loc} (h1 : zRel X L σ H locs) (h2 : zlv L rls (xnL X) ls) (h3 : zlo L.length ls) (h4 : zso L.length st) {w9 : va_W} (hq : H.size ≤ H1.size ∧ (∀ z : Nat, z < H.size → ¬ va_A [] H.size z → H1[z]? = H[z]?) ∧ va_D (va_A [] H.size) w9) (hS : va_S (xA X) (xs X).heap H1 locs1) {c9 s9 : Nat} (e1 : c9 = znc σ - xnc X) (e2 : s9 = zns σ - xns X) : W (xp X) (xl X) (xe X) (xR X) (xs X) (xm X) (xa X) (xb X) (xme X) (xc X) H1 locs1 c9 s9 (xQ X) (F0 (xm X) pc rls (st.map (zt L))) := by
  subst e1
  subst e2
  refine K L rls H1 locs1 (h1.mv (fun z hz => hq.2.1 z hz (fun h => ?_)) hS) h2 h3 h4
  rcases h with ⟨k, e, hk⟩ | h
  · cases hk
  · omega
end ZSG
theorem zmet_run {l : Launch} {Y : zY} {ro : Nat → Int32 → zS → Option (zO × zS)} (Hy : zHyp l Y zP zic ro) (e2 : Y.1.2.2.1 = zFt) {y : Nat} {vs : List Value} {σ : zS} {Qz : zO → zS → Prop} (hlen : (zent vs).length ≤ zmL (zP y)) (hpl : plainFor (zmN (zP y)) = true) (hz : zW ro y 0 (zfst vs (zmL (zP y))) [] σ Qz) : ∃ (o : zO) (σ' : zS), Qz o σ' ∧ zMet l Y zP y vs σ o σ' := by
  obtain ⟨n, o1, σ1, h, hQ⟩ := hz
  rw [← e2] at h
  exact ⟨o1, σ1, hQ, zmet_of Hy.1 hlen hpl Hy.2.1 fun X1 F1 O1 hl1 hY1 V1 hn1 hn2 hc1 hc2 hQ1 => zx_sim Hy n X1 y 0 _ [] σ o1 σ1 F1 O1 hl1 hY1 V1 hQ1 (by rw [hn1, hc1]; exact Nat.le_refl _) (by rw [hn2, hc2]; exact Nat.le_refl _) h⟩
theorem zhyp_no {l : Launch} {Y : zY} (hl : l.stackTraces = false) (e1 : Y.1.2.1 = zCl) (e2 : Y.1.2.2.1 = zFt) : zHyp l Y zP zic (fun _ _ _ => none) := zhyp_of hl e1 e2 (fun m r σ o σ' h => by cases h) (by
  intro X y pc x r1 r2 tg ls m r rest σ o σ1 _ _ _ _ _ _ h
  cases h)
set_option maxRecDepth 20000 in
set_option maxHeartbeats 4000000 in
theorem zsign_walk {l : Launch} {Y : zY} (hl : l.stackTraces = false) (e1 : Y.1.2.1 = zCl) (e2 : Y.1.2.2.1 = zFt) {L : Nat} {K9 : zK} {s : zJ} {R : Nat → Nat → Option Nat} {G : Nat → Nat → Int64} {nc ns : Nat} (S : zSR R) {k a0 a1 w : Int32} {ch : Nat}
    (M0 : zMet l Y zP 142 [.ref 7, .int (Int32.ofInt 0), .int k] (zN L K9 (zhi s) R G nc ns) (.inl (some (.int a0))) (zN L K9 (zhi s) R G nc ns))
    (M1 : zMet l Y zP 142 [.ref 7, .int (Int32.ofInt 1), .int k] (zN L K9 (zhi s) R G nc ns) (.inl (some (.int a1))) (zN L K9 (zhi s) R G nc ns))
    (MW : zMet l Y zP 81 [.ref 8, .int k] (zN L K9 (zhi s) R G nc ns) (.inl (some (.int w))) (zN L K9 (zhi s) R G nc ns)) (hch : zch ch)
    (c1 : ¬ a0 = 0 → ¬ a1 = 0 → ch = 42) (c2 : ¬ a0 = 0 → a1 = 0 → ch = 111) (c3 : a0 = 0 → ¬ a1 = 0 → ch = 120) (c4 : a0 = 0 → a1 = 0 → (w < 0 ∨ nI 8 ≤ w) → ch = 46)
    (c5 : a0 = 0 → a1 = 0 → ¬ w < 0 → ¬ nI 8 ≤ w → ∃ kk : Nat, kk < 8 ∧ w = nI kk ∧ (zsg.getD kk 0 &&& 255) = nI ch ∧ ((nI ch).toUInt32 % 65536).toInt32 = nI ch) :
    zMet l Y (fun _ => zm_sign) 0 [.ref 6, .int k] (zN L K9 (zhi s) R G nc ns) (.inl (some (.int (nI ch)))) (zN L K9 (zhi s) R G nc ns) := by
  refine zmet_of (P := fun _ => zm_sign) hl (Nat.le_of_ble_eq_true rfl) (by decide +kernel) (by rw [e1, e2]; exact zCls_ok) ?_
  intro X F O hl1 hY V hn1 hn2 hr1 hr2 hQ
  have O : zOn zm_sign X := O
  have ecc : xcc X = zmB zm_sign := O.1
  have eow : xown X = "Siegelines" := O.2.2.1
  have hsub : ∀ w ∈ zTb, w ∈ xTs X := fun w hw => by rw [O.2.2.2.1]; exact List.mem_cons_of_mem _ hw
  have ecl : xcl X = zCl := by rw [← e1, ← hY]
  have eft : xft X = zFt := by rw [← e2, ← hY]
  have hr1' : znc (zN L K9 (zhi s) R G nc ns) - xnc X ≤ (xR X).cells := by rw [hn1, hr1]; exact Nat.le_refl _
  have hr2' : zns (zN L K9 (zhi s) R G nc ns) - xns X ≤ (xR X).slots := by rw [hn2, hr2]; exact Nat.le_refl _
  have hend : ∀ (x : Int32) (ls : zLs) (pc : Nat), decode (xcc X) pc = .ok (.ireturn, 1) → x = nI ch → zC X pc ls [.int x] (zN L K9 (zhi s) R G nc ns) := fun x ls pc d e => by
    subst e
    exact zs_iret F hQ O.2.2.2.2.1 O.2.2.2.2.2.1 hch.2 d hr1' hr2'
  have h31 : ∀ q20 : a0 = 0 ∨ a1 = 0, zC X 31 [some (.ref 6), some (.int k), some (.int a0), some (.int a1), none] [] (zN L K9 (zhi s) R G nc ns) := fun q20 => by
    refine zs_iload_n F (k := 2) (by rw [ecc]; decide +kernel) rfl ?_
    refine zs_if_eq F (t := 38) (off := 6) (by decide) (by rw [ecc]; decide +kernel) (fun q32 => ?_) (fun q32 => ?_)
    · skip
      refine zs_iload_n F (k := 3) (by rw [ecc]; decide +kernel) rfl ?_
      refine zs_if_eq F (t := 45) (off := 6) (by decide) (by rw [ecc]; decide +kernel) (fun q39 => ?_) (fun q39 => ?_)
      · skip
        refine zs_aload_n F (k := 0) (by rw [ecc]; decide +kernel) rfl ?_
        refine zs_getv F (idx := 10) (k := 0) (n := 2) (j := 0) (N := 2) (C := "Siegelines") (T := F_Main) (v := .ref 7) (by rw [ecl]; rfl) (by decide) (by rw [eow]; exact hsub _ (zat_t (by decide +kernel))) (by rw [ecc]; decide +kernel) rfl (by rw [eft]; exact zr_6_0 S) ?_
        refine zs_getv F (idx := 38) (k := 1) (n := 17) (j := 0) (N := 17) (C := "Siegelines$Siege") (T := F_Siege) (v := .ref 8) (by rw [ecl]; rfl) (by decide) (by rw [eow]; exact hsub _ (zat_t (by decide +kernel))) (by rw [ecc]; decide +kernel) rfl (by rw [eft]; exact zr_7_0 S) ?_
        refine zs_iload_n F (k := 1) (by rw [ecc]; decide +kernel) rfl ?_
        show zC X 53 [some (.ref 6), some (.int k), some (.int a0), some (.int a1), none] ([.int k].reverse ++ .ref 8 :: []) _
        refine zs_V F V O (idx := 85) (P := zP) (y := 81) (k := 2) (n := 14) (N := 14) (T := F_Ground) (by rw [hl1, hY]; exact MW) ⟨zat_t (by decide +kernel), zat_t (by decide +kernel), ⟨by decide +kernel, by decide +kernel, (show (parseMethodDescriptor (zmN (zP 81)).desc).map (fun d => d.parameters.length) = some 1 from by decide +kernel)⟩, by decide +kernel, by decide +kernel⟩ (by decide +kernel) rfl (by rw [ecl]; rfl) (zat_t (by decide +kernel)) (zat_t (by decide +kernel)) (by rw [eow]; exact zat_t (by decide +kernel)) (by decide) (by rw [ecc]; decide +kernel) ⟨Nat.le_refl _, Nat.le_refl _⟩ hr1' hr2' (fun v hv => ?_) (fun E hE => by cases hE)
        cases hv
        show zC X 56 [some (.ref 6), some (.int k), some (.int a0), some (.int a1), none] [.int w] _
        refine zs_istore F (k := 4) (by rw [ecc]; decide +kernel) (Nat.le_of_ble_eq_true rfl) ?_
        show zC X 58 [some (.ref 6), some (.int k), some (.int a0), some (.int a1), some (.int w)] [] _
        have h85 : (w < 0 ∨ nI 8 ≤ w) → zC X 85 [some (.ref 6), some (.int k), some (.int a0), some (.int a1), some (.int w)] [] (zN L K9 (zhi s) R G nc ns) := fun q => by
          refine zs_bipush F (n := 46) (by rw [ecc]; decide +kernel) ?_
          exact hend _ _ 87 (by rw [ecc]; decide +kernel) (by rw [c4 q32 q39 q]; decide +kernel)
        refine zs_iload F (k := 4) (by rw [ecc]; decide +kernel) rfl ?_
        refine zs_if_lt F (t := 85) (off := 25) (by decide) (by rw [ecc]; decide +kernel) (fun q60 => h85 (Or.inl q60)) (fun q60 => ?_)
        refine zs_iload F (k := 4) (by rw [ecc]; decide +kernel) rfl ?_
        obtain ⟨kv, D9, cB9, hkr, XB⟩ := zX_zbX F V O
        have hR9 : xR X = zrm zm_sign (xR X).cells (xR X).slots := zR_eta O.2.2.2.2.2.2.2.2.1 O.2.2.2.2.2.2.2.2.2.1
        have hsL : (Cond.selects "java/lang/String" (zmN zj_sLen) (zmN zj_sLen)).before (xa X) (xs X) = true := XB.2.2.2.2.1 _ (zat_t (by decide +kernel))
        have hsC : (Cond.selects "java/lang/String" (zmN zj_chS) (zmN zj_chS)).before (xa X) (xs X) = true := XB.2.2.2.2.1 _ (zat_t (by decide +kernel))
        have h71 : zC X 71 [some (.ref 6), some (.int k), some (.int a0), some (.int a1), some (.int w)] [.int (nI 8), .int w] (zN L K9 (zhi s) R G nc ns) := by
          refine zs_icmp_ge F (t := 85) (off := 14) (by decide) (by rw [ecc]; decide +kernel) (fun q71 => h85 (Or.inr q71)) (fun q71 => ?_)
          obtain ⟨kk, k1, rfl, k3, k4⟩ := c5 q32 q39 q60 q71
          have h82 : zC X 82 [some (.ref 6), some (.int k), some (.int a0), some (.int a1), some (.int (nI kk))] [.int (nI ch)] (zN L K9 (zhi s) R G nc ns) := by
            refine zs_goto F (t := 87) (off := 5) (by decide) (by rw [ecc]; decide +kernel) ?_
            exact hend _ _ 87 (by rw [ecc]; decide +kernel) rfl
          intro L9 rls H locs h1 h2 h3 h4
          refine zb_ldcW XB.1 XB.2.1 XB.2.2.2.1 hkr (show decode (zmB zm_sign) 74 = .ok (.ldc_w 566, 3) from by decide +kernel) ?_
          refine lv_iload XB.1 XB.2.1 (show decode (zmB zm_sign) 77 = .ok (.iload 4, 2) from by decide +kernel) (h2.2.2.2 4 _ rfl) ?_
          refine zb_V0 (q := zj_chS) (w := []) XB hR9 (zjt_chS k1 hch k3 k4) ⟨zat_t (by decide +kernel), zat_t (by decide +kernel), zat_t (by decide +kernel), rfl, ⟨by decide +kernel, by decide +kernel⟩, (show (parseMethodDescriptor (zmN zj_chS).desc).map (fun d => d.parameters.length) = some 1 from by decide +kernel), by decide, by decide⟩ (zat_t (by decide +kernel)) hsC (vk_recv XB.2.2.2.2.2.2.2.1.2.2.1 Nat.zero_lt_one h1.2.2.2.2.2.2.2.1) ⟨hr1', hr2'⟩ (Nat.le_of_ble_eq_true rfl) (show decode (zmB zm_sign) 79 = .ok (.invokevirtual 572, 3) from by decide +kernel) (h2.1.trans O.2.1) (fun k q h => by cases h) ⟨(fun i j p q h => by cases h), (fun k q h => by cases h)⟩ h1.2.2.2.2.2.2.2.1 rfl ?_
          intro v9 w9 H1 locs1 h9 _ _ hS9 hq9
          obtain ⟨rfl, -⟩ := h9
          exact zC_mv h82 h1 h2 h3 (fun v hv => by rcases List.mem_singleton.mp hv with rfl; trivial) hq9 hS9 rfl rfl
        intro L9 rls H locs h1 h2 h3 h4
        refine zb_ldcW XB.1 XB.2.1 XB.2.2.2.1 hkr (show decode (zmB zm_sign) 65 = .ok (.ldc_w 566, 3) from by decide +kernel) ?_
        refine zb_V0 (q := zj_sLen) (w := []) (vs := []) (rest := [.int w]) XB hR9 zjt_lenK ⟨zat_t (by decide +kernel), zat_t (by decide +kernel), zat_t (by decide +kernel), rfl, ⟨by decide +kernel, by decide +kernel⟩, (show (parseMethodDescriptor (zmN zj_sLen).desc).map (fun d => d.parameters.length) = some 0 from by decide +kernel), by decide, by decide⟩ (zat_t (by decide +kernel)) hsL (vk_recv XB.2.2.2.2.2.2.2.1.2.2.1 Nat.zero_lt_one h1.2.2.2.2.2.2.2.1) ⟨hr1', hr2'⟩ (Nat.le_of_ble_eq_true rfl) (show decode (zmB zm_sign) 68 = .ok (.invokevirtual 568, 3) from by decide +kernel) (h2.1.trans O.2.1) (fun k q h => by cases h) ⟨(fun i j p q h => by cases h), (fun k q h => by cases h)⟩ h1.2.2.2.2.2.2.2.1 rfl ?_
        intro v9 w9 H1 locs1 h9 _ _ hS9 hq9
        obtain ⟨rfl, -⟩ := h9
        exact zC_mv h71 h1 h2 h3 (h4.cons trivial) hq9 hS9 rfl rfl
      · refine zs_bipush F (n := 120) (by rw [ecc]; decide +kernel) ?_
        exact hend _ _ 44 (by rw [ecc]; decide +kernel) (by rw [c3 q32 q39]; decide +kernel)
    · refine zs_bipush F (n := 111) (by rw [ecc]; decide +kernel) ?_
      exact hend _ _ 37 (by rw [ecc]; decide +kernel) (by rw [c2 q32 (q20.resolve_left q32)]; decide +kernel)
  show zC X 0 [some (.ref 6), some (.int k), none, none, none] [] _
  refine zs_aload_n F (k := 0) (by rw [ecc]; decide +kernel) rfl ?_
  refine zs_getv F (idx := 10) (k := 0) (n := 2) (j := 0) (N := 2) (C := "Siegelines") (T := F_Main) (v := .ref 7) (by rw [ecl]; rfl) (by decide) (by rw [eow]; exact hsub _ (zat_t (by decide +kernel))) (by rw [ecc]; decide +kernel) rfl (by rw [eft]; exact zr_6_0 S) ?_
  refine zs_iconst F (n := 0) (by rw [ecc]; decide +kernel) ?_
  refine zs_iload_n F (k := 1) (by rw [ecc]; decide +kernel) rfl ?_
  show zC X 6 [some (.ref 6), some (.int k), none, none, none] ([.int (Int32.ofInt 0), .int k].reverse ++ .ref 7 :: []) _
  refine zs_V F V O (idx := 563) (P := zP) (y := 142) (k := 1) (n := 17) (N := 17) (T := F_Siege) (by rw [hl1, hY]; exact M0) ⟨zat_t (by decide +kernel), zat_t (by decide +kernel), ⟨by decide +kernel, by decide +kernel, (show (parseMethodDescriptor (zmN (zP 142)).desc).map (fun d => d.parameters.length) = some 2 from by decide +kernel)⟩, by decide +kernel, by decide +kernel⟩ (by decide +kernel) rfl (by rw [ecl]; rfl) (zat_t (by decide +kernel)) (zat_t (by decide +kernel)) (by rw [eow]; exact zat_t (by decide +kernel)) (by decide) (by rw [ecc]; decide +kernel) ⟨Nat.le_refl _, Nat.le_refl _⟩ hr1' hr2' (fun v hv => ?_) (fun E hE => by cases hE)
  cases hv
  show zC X 9 [some (.ref 6), some (.int k), none, none, none] [.int a0] _
  refine zs_istore_n F (k := 2) (by rw [ecc]; decide +kernel) (Nat.le_of_ble_eq_true rfl) ?_
  show zC X 10 [some (.ref 6), some (.int k), some (.int a0), none, none] [] _
  refine zs_aload_n F (k := 0) (by rw [ecc]; decide +kernel) rfl ?_
  refine zs_getv F (idx := 10) (k := 0) (n := 2) (j := 0) (N := 2) (C := "Siegelines") (T := F_Main) (v := .ref 7) (by rw [ecl]; rfl) (by decide) (by rw [eow]; exact hsub _ (zat_t (by decide +kernel))) (by rw [ecc]; decide +kernel) rfl (by rw [eft]; exact zr_6_0 S) ?_
  refine zs_iconst F (n := 1) (by rw [ecc]; decide +kernel) ?_
  refine zs_iload_n F (k := 1) (by rw [ecc]; decide +kernel) rfl ?_
  show zC X 16 [some (.ref 6), some (.int k), some (.int a0), none, none] ([.int (Int32.ofInt 1), .int k].reverse ++ .ref 7 :: []) _
  refine zs_V F V O (idx := 563) (P := zP) (y := 142) (k := 1) (n := 17) (N := 17) (T := F_Siege) (by rw [hl1, hY]; exact M1) ⟨zat_t (by decide +kernel), zat_t (by decide +kernel), ⟨by decide +kernel, by decide +kernel, (show (parseMethodDescriptor (zmN (zP 142)).desc).map (fun d => d.parameters.length) = some 2 from by decide +kernel)⟩, by decide +kernel, by decide +kernel⟩ (by decide +kernel) rfl (by rw [ecl]; rfl) (zat_t (by decide +kernel)) (zat_t (by decide +kernel)) (by rw [eow]; exact zat_t (by decide +kernel)) (by decide) (by rw [ecc]; decide +kernel) ⟨Nat.le_refl _, Nat.le_refl _⟩ hr1' hr2' (fun v hv => ?_) (fun E hE => by cases hE)
  cases hv
  show zC X 19 [some (.ref 6), some (.int k), some (.int a0), none, none] [.int a1] _
  refine zs_istore_n F (k := 3) (by rw [ecc]; decide +kernel) (Nat.le_of_ble_eq_true rfl) ?_
  show zC X 20 [some (.ref 6), some (.int k), some (.int a0), some (.int a1), none] [] _
  refine zs_iload_n F (k := 2) (by rw [ecc]; decide +kernel) rfl ?_
  refine zs_if_eq F (t := 31) (off := 10) (by decide) (by rw [ecc]; decide +kernel) (fun q21 => h31 (Or.inl q21)) (fun q21 => ?_)
  refine zs_iload_n F (k := 3) (by rw [ecc]; decide +kernel) rfl ?_
  refine zs_if_eq F (t := 31) (off := 6) (by decide) (by rw [ecc]; decide +kernel) (fun q25 => h31 (Or.inr q25)) (fun q25 => ?_)
  refine zs_bipush F (n := 42) (by rw [ecc]; decide +kernel) ?_
  exact hend _ _ 30 (by rw [ecc]; decide +kernel) (by rw [c1 q21 q25]; decide +kernel)
theorem zsign_met {l : Launch} {Y : zY} (hl : l.stackTraces = false) (e1 : Y.1.2.1 = zCl) (e2 : Y.1.2.2.1 = zFt) {L : Nat} {K9 : zK} {s : zJ} {R : Nat → Nat → Option Nat} {G : Nat → Nat → Int64} {nc ns : Nat} {g : Nat → Int} {U F T B ph : Int} (S : zSR R) (V : zV g U F T B ph s) {k : Int} (hk : -2147483648 ≤ k ∧ k < 2147483648) : ∃ ch : Nat, zch ch ∧ zMet l Y (fun _ => zm_sign) 0 [.ref 6, .int (Int32.ofInt k)] (zN L K9 (zhi s) R G nc ns) (.inl (some (.int (nI ch)))) (zN L K9 (zhi s) R G nc ns) := by
  have Hy := zhyp_no hl e1 e2
  have hh : ∀ x : Int, -2147483648 ≤ x ∧ x < 2147483648 → ∃ a : Int32, zMet l Y zP 142 [.ref 7, .int (Int32.ofInt x), .int (Int32.ofInt k)] (zN L K9 (zhi s) R G nc ns) (.inl (some (.int a))) (zN L K9 (zhi s) R G nc ns) := by
    intro x hx
    obtain ⟨o, σ', ⟨ho, rfl⟩, M⟩ := zmet_run Hy e2 (y := 142) (vs := [.ref 7, .int (Int32.ofInt x), .int (Int32.ofInt k)]) (Qz := fun o σ' => (o = .inl (some (.int (Int32.ofInt 1))) ∨ o = .inl (some (.int (Int32.ofInt 0)))) ∧ σ' = zN L K9 (zhi s) R G nc ns) (Nat.le_of_ble_eq_true rfl) (by decide +kernel) (t_Siege_isHeldBy S V hx hk ⟨Or.inl rfl, rfl⟩ ⟨Or.inr rfl, rfl⟩)
    rcases ho with rfl | rfl
    · exact ⟨_, M⟩
    · exact ⟨_, M⟩
  obtain ⟨a0, M0⟩ := hh 0 (by omega)
  obtain ⟨a1, M1⟩ := hh 1 (by omega)
  obtain ⟨o, σ', ⟨w, rfl, rfl⟩, MW⟩ := zmet_run Hy e2 (y := 81) (vs := [.ref 8, .int (Int32.ofInt k)]) (Qz := fun o σ' => ∃ w : Int32, o = .inl (some (.int w)) ∧ σ' = zN L K9 (zhi s) R G nc ns) (Nat.le_of_ble_eq_true rfl) (by decide +kernel) (t_Ground_workOf S V hk (fun v _ _ => ⟨_, rfl, rfl⟩))
  have go := fun (ch : Nat) (h : zch ch) => zsign_walk hl e1 e2 S M0 M1 MW h
  by_cases q0 : a0 = 0
  · by_cases q1 : a1 = 0
    · by_cases q2 : w < 0 ∨ nI 8 ≤ w
      · exact ⟨46, ⟨by decide, by decide +kernel⟩, go 46 ⟨by decide, by decide +kernel⟩ (fun h => absurd q0 h) (fun h => absurd q0 h) (fun _ h => absurd q1 h) (fun _ _ _ => rfl) (fun _ _ h h2 => absurd q2 (fun h3 => h3.elim h h2))⟩
      · have q3 : ¬ w < 0 := fun h => q2 (Or.inl h)
        have q4 : ¬ nI 8 ≤ w := fun h => q2 (Or.inr h)
        obtain ⟨kk, hk1, rfl⟩ := nI_of q3
        have h8 : kk < 8 := by
          rcases Nat.lt_or_ge kk 8 with h | h
          · exact h
          · exact absurd (nI_le h hk1) q4
        obtain ⟨ch, z1, z2, z3⟩ := zsg_at h8
        exact ⟨ch, z1, go ch z1 (fun h => absurd q0 h) (fun h => absurd q0 h) (fun _ h => absurd q1 h) (fun _ _ h => absurd h q2) (fun _ _ _ _ => ⟨kk, h8, rfl, z2, z3⟩)⟩
    · exact ⟨120, ⟨by decide, by decide +kernel⟩, go 120 ⟨by decide, by decide +kernel⟩ (fun h => absurd q0 h) (fun h => absurd q0 h) (fun _ _ => rfl) (fun _ h => absurd h q1) (fun _ h => absurd h q1)⟩
  · by_cases q1 : a1 = 0
    · exact ⟨111, ⟨by decide, by decide +kernel⟩, go 111 ⟨by decide, by decide +kernel⟩ (fun _ h => absurd q1 h) (fun _ _ => rfl) (fun h => absurd h q0) (fun h => absurd h q0) (fun h => absurd h q0)⟩
    · exact ⟨42, ⟨by decide, by decide +kernel⟩, go 42 ⟨by decide, by decide +kernel⟩ (fun _ _ => rfl) (fun _ h => absurd h q1) (fun h => absurd h q0) (fun h => absurd h q0) (fun h => absurd h q0)⟩
