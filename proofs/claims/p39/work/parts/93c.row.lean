/-! the map's rows: the walk of Siegelines.row -/
/-- what a row's end says: a text of that length, the siege as it was -/
def zRowQ (Y : zY) (D : va_G) (cB : ClassId) (σ : zS) (wd : Nat) (A : Nat → Prop) (L0 : List Nat) : Array Value → State → Outcome → State → Prop := fun _ st oc t => (∃ (Lf : List Nat) (sa va : Nat) (f1 : Nat → Int32), oc = .returned (some (.ref sa)) ∧ zEnd Y A L0 Lf σ t ∧ va_P D zbC [(sa, .inr (1, [.ref va, .int 0, .int 0, .int 0])), (va, .inl (cB, wd, .inl f1))] t.heap ∧ va_D A [(sa, .inr (1, [.ref va, .int 0, .int 0, .int 0])), (va, .inl (cB, wd, .inl f1))] ∧ st.heap.size ≤ sa ∧ st.heap.size ≤ va) ∧ va_F A st t
theorem zRel.mw {X : zX} {L : List Nat} {σ : zS} {H H1 : Heap} {locs locs1 : List Loc} (h : zRel X L σ H locs) (hq : ∀ (k : Nat) (q : Nat × va_E), (zw (xft X) (xcA X) (xmo X) L σ)[k]? = some q → H1[q.1]? = H[q.1]?) (hS : va_S (xA X) (xs X).heap H1 locs1) : zRel X L σ H1 locs1 := by
  obtain ⟨r1, r2, r3, r4, r5, r6, r7, r8, r9, r10, r11⟩ := h
  exact ⟨r1, r2, r3, r4, r5, fun k q hk => (r6 k q hk).kept (hq k q hk), r7, hS, r9, r10, r11⟩
theorem zwd_of {w : Int} (h : 0 ≤ w ∧ w < 2147483648) : Int32.ofInt w = nI w.toNat := Int32.toInt_inj.mp (by rw [zj_ti (by omega), nI_toInt (by omega)]; omega)
set_option maxRecDepth 20000 in
set_option maxHeartbeats 4000000 in
theorem zrow_met {l : Launch} {Y : zY} (hl : l.stackTraces = false) (e1 : Y.1.2.1 = zCl) (e2 : Y.1.2.2.1 = zFt) {L0 : Nat} {K9 : zK} {s : zJ} {R : Nat → Nat → Option Nat} {G : Nat → Nat → Int64} {nc ns : Nat} {g : Nat → Int} {U F0' T B ph : Int} (S : zSR R) (V : zV g U F0' T B ph s) {k : Int} (hk : 0 ≤ k ∧ k < g 1) (D : va_G) (cB : ClassId) :
    ∀ (L : List Nat) (sz : Nat), vx_Met l (zmN zm_row) (zws zm_row) (zrm zm_row 16 400) (zPk Y D cB L (zN L0 K9 (zhi s) R G nc ns) sz [.ref 6, .int (Int32.ofInt k)]) (zRowQ Y D cB (zN L0 K9 (zhi s) R G nc ns) (g 0).toNat (va_A (zw Y.1.2.2.1 Y.1.2.2.2 Y.2.1 L (zN L0 K9 (zhi s) R G nc ns)) sz) L) (fun _ _ _ => False) 16 400 (va_A (zw Y.1.2.2.1 Y.1.2.2.2 Y.2.1 L (zN L0 K9 (zhi s) R G nc ns)) sz) := by
  have hg := zA_geo (zV_zA V)
  have ew : zhi s 8 9 = nI (g 0).toNat := by
    show Int32.ofInt (s 8 9) = _
    rw [hg.1.1]
    exact zwd_of (by omega)
  obtain ⟨wd, hwd⟩ : ∃ wd : Nat, wd = (g 0).toNat := ⟨_, rfl⟩
  rw [← hwd] at ew ⊢
  have hw16 : wd < 16 := by omega
  have sg : ∀ z : Int32, ∃ ch : Nat, zch ch ∧ zMet l Y (fun _ => zm_sign) 0 [.ref 6, .int z] (zN L0 K9 (zhi s) R G nc ns) (.inl (some (.int (nI ch)))) (zN L0 K9 (zhi s) R G nc ns) := by
    intro z
    obtain ⟨v, hv, rfl⟩ := zj_w z
    exact zsign_met hl e1 e2 S V hv
  refine zmet_ofQ (Qc := zRowQ Y D cB (zN L0 K9 (zhi s) R G nc ns) wd) (D9 := D) (cB9 := cB) hl (Nat.le_of_ble_eq_true rfl) (by decide +kernel) (by rw [e1, e2]; exact zCls_ok) rfl ?_
  intro X F O hl1 hY V9 hn1 hn2 hr1 hr2 hK9 hQ
  have ecc : xcc X = zmB zm_row := O.1
  have eow : xown X = "Siegelines" := O.2.2.1
  have hsub : ∀ w ∈ zTb, w ∈ xTs X := fun w hw => by rw [O.2.2.2.1]; exact List.mem_cons_of_mem _ hw
  have ecl : xcl X = zCl := by rw [← e1, ← hY]
  have eft : xft X = zFt := by rw [← e2, ← hY]
  have hz1 : znc (zN L0 K9 (zhi s) R G nc ns) - xnc X = 0 := by rw [hn1]; exact Nat.sub_self _
  have hz2 : zns (zN L0 K9 (zhi s) R G nc ns) - xns X = 0 := by rw [hn2]; exact Nat.sub_self _
  obtain ⟨kv, XB⟩ := zX_zbK F V9 O hK9
  have hx := XB.1
  have hb := XB.2.1
  have hown : (xs X).vm.findClass "Siegelines" = some (xm X).cls := XB.2.2.2.1
  have hts := XB.2.2.2.2.1
  have hA := XB.2.2.2.2.2.2.1
  have hR : xR X = zrm zm_row 16 400 := by
    have h9 := zR_eta (R := xR X) (q := zm_row) O.2.2.2.2.2.2.2.2.1 O.2.2.2.2.2.2.2.2.2.1
    rw [hr1, hr2] at h9
    exact h9
  have hsA : (Cond.selects "java/lang/StringBuilder" (zmN zj_app) (zmN zj_app)).before (xa X) (xs X) = true := hts _ (zat_t (by decide +kernel))
  have hsT : (Cond.selects "java/lang/StringBuilder" (zmN zj_toS) (zmN zj_toS)).before (xa X) (xs X) = true := hts _ (zat_t (by decide +kernel))
  show zC X 0 [some (.ref 6), some (.int (Int32.ofInt k)), none, none] [] _
  refine zs_iload_n F (k := 1) (by rw [ecc]; decide +kernel) rfl ?_
  refine zs_if_lt F (t := 18) (off := 17) (by decide) (by rw [ecc]; decide +kernel) (fun q => ?_) (fun q => ?_)
  · rw [show (0 : Int32) = Int32.ofInt 0 from rfl, zj_lt (by omega) (by decide)] at q
    omega
  refine zs_iload_n F (k := 1) (by rw [ecc]; decide +kernel) rfl ?_
  refine zs_aload_n F (k := 0) (by rw [ecc]; decide +kernel) rfl ?_
  refine zs_getv F (idx := 10) (k := 0) (n := 2) (j := 0) (N := 2) (C := "Siegelines") (T := F_Main) (v := .ref 7) (by rw [ecl]; rfl) (by decide) (by rw [eow]; exact hsub _ (zat_t (by decide +kernel))) (by rw [ecc]; decide +kernel) rfl (by rw [eft]; exact zr_6_0 S) ?_
  refine zs_getv F (idx := 38) (k := 1) (n := 17) (j := 0) (N := 17) (C := "Siegelines$Siege") (T := F_Siege) (v := .ref 8) (by rw [ecl]; rfl) (by decide) (by rw [eow]; exact hsub _ (zat_t (by decide +kernel))) (by rw [ecc]; decide +kernel) rfl (by rw [eft]; exact zr_7_0 S) ?_
  refine zs_getv F (idx := 364) (k := 2) (n := 14) (j := 10) (N := 14) (C := "Siegelines$Ground") (T := F_Ground) (v := .int (zhi s 8 10)) (by rw [ecl]; rfl) (by decide) (by rw [eow]; exact hsub _ (zat_t (by decide +kernel))) (by rw [ecc]; decide +kernel) rfl (by rw [eft]; rfl) ?_
  refine zs_icmp_lt F (t := 29) (off := 14) (by decide) (by rw [ecc]; decide +kernel) (fun q => ?_) (fun q => ?_)
  case refine_2 =>
    exfalso
    apply q
    show Int32.ofInt k < Int32.ofInt (s 8 10)
    rw [hg.1.2.1, zj_lt (by omega) (by omega)]
    exact hk.2
  intro L rls H locs h1 h2 h3 h4
  rw [hz1, hz2]
  have hl2 : lv_has rls 4 [(0, .ref (L.getD 6 0)), (1, .int (Int32.ofInt k))] := ⟨h2.1.trans O.2.1, h2.2.1, fun q hq => by
    rcases List.mem_cons.mp hq with rfl | hq
    · exact h2.2.2.2 0 (.ref 6) rfl
    · rcases List.mem_singleton.mp hq with rfl
      exact h2.2.2.2 1 (.int (Int32.ofInt k)) rfl⟩
  have hzl : ∀ (i : Nat) (q : Nat × va_E), (zw (xft X) (xcA X) (xmo X) L (zN L0 K9 (zhi s) R G nc ns))[i]? = some q → q.1 < H.size := fun i q hi => (h1.2.2.2.2.2.1 i q hi).lt
  refine zb_new (T := zTB) (N := 4) (ci := 0) (D := D) (cl := zbC) (ws := []) (A := xA X) (H0 := (xs X).heap) (tys := [(cB, .byte)]) hx hb hts zu_B zyB zTB_t hown (hts (Cond.classLink "Siegelines" 369 "java/lang/StringBuilder") (zat_t (by decide +kernel))) (hts (Cond.instantiable "java/lang/StringBuilder" 4) (zat_t (by decide +kernel))) (hts (Cond.initialized "java/lang/StringBuilder") (zat_t (by decide +kernel))) hK9 (fun k q h => by cases h) ⟨(fun i j p q h => by cases h), (fun k q h => by cases h)⟩ h1.2.2.2.2.2.2.2.1 hA rfl (fs := [.null, .int 0, .int 0, .int 0]) (fun j hj => match j, hj with | 0, _ => rfl | 1, _ => rfl | 2, _ => rfl | 3, _ => rfl | z + 4, h9 => absurd h9 (by omega)) (by rw [hR]; decide) (by rw [hR]; decide) (show decode (zmB zm_row) 29 = .ok (.new 369, 3) from by decide +kernel) fun b H1 hbz hz hq hP hD hS => ?_
  have hP : va_P D zbC [(b, .inr (0, [.null, .int 0, .int 0, .int 0]))] H1 := hP
  have hD : va_D (xA X) [(b, .inr (0, [.null, .int 0, .int 0, .int 0]))] := hD
  refine lv_dup hx hb (show decode (zmB zm_row) 32 = .ok (.dup, 1) from by decide +kernel) rfl ?_
  refine zb_I (q := zj_init) (vs := []) (rest := [.ref b]) XB hR zjt_init ⟨zat_t (by decide +kernel), zat_t (by decide +kernel), zat_t (by decide +kernel), rfl, ⟨by decide +kernel, by decide +kernel⟩, (show (parseMethodDescriptor (zmN zj_init).desc).map (fun d => d.parameters.length) = some 0 from by decide +kernel), by decide, by decide⟩ (zat_t (by decide +kernel)) rfl rfl (by decide) (Nat.le_of_ble_eq_true rfl) (show decode (zmB zm_row) 33 = .ok (.invokespecial 371, 3) from by decide +kernel) hl2.1 hP hD hS rfl ?_
  intro v9 w9 H2 locs2 h9 hP2 hD2 hS2 hq2
  obtain ⟨rfl, da, rfl⟩ := h9
  have hda : H.size ≤ da := by
    rcases hq2.2.2.2 1 (da, .inl (cB, 16, .inl (fun _ => 0))) rfl with ⟨i, e, hi⟩ | h
    · cases i with
      | zero => cases hi; exact hbz
      | succ i => cases hi
    · exact Nat.le_trans hz h
  have hh2 : zRel X L (zN L0 K9 (zhi s) R G nc ns) H2 locs2 := h1.mw (fun i q hi => by
    have hlt := hzl i q hi
    rw [hq2.2.1 q.1 (Nat.lt_of_lt_of_le hlt hz) (fun hh => ?_), hq q.1 hlt]
    rcases hh with ⟨i9, e, hi9⟩ | hh
    · cases i9 with
      | zero => cases hi9; omega
      | succ i9 => cases hi9
    · omega) hS2
  have hz2' : H.size ≤ H2.size := Nat.le_trans hz hq2.1
  refine lv_astore_n (lv' := [(2, .ref b), (0, .ref (L.getD 6 0)), (1, .int (Int32.ofInt k))]) hx hb (show decode (zmB zm_row) 36 = .ok (.astore_n 2, 1) from by decide +kernel) rfl hl2 (by decide) rfl fun rls3 hl3 => ?_
  refine lv_iconst (v := nI 0) hx hb (show decode (zmB zm_row) 37 = .ok (.iconst 0, 1) from by decide +kernel) (by decide +kernel) ?_
  refine lv_istore_n (lv' := [(3, .int (nI 0)), (2, .ref b), (0, .ref (L.getD 6 0)), (1, .int (Int32.ofInt k))]) hx hb (show decode (zmB zm_row) 38 = .ok (.istore_n 3, 1) from by decide +kernel) rfl hl3 (by decide) rfl fun rls4 hl4 => ?_
  have hsg : ∀ (i : Nat) (q : Nat × va_E), (zw (xft X) (xcA X) (xmo X) L (zN L0 K9 (zhi s) R G nc ns))[i]? = some q → ∀ (n : Nat) (f : Nat → Int32) (z : Nat), H.size ≤ z → ¬ va_A (zbd cB b da n f) z q.1 := by
    intro i q hi n f z hzz hh
    have hlt := hzl i q hi
    rcases hh with ⟨i9, e, hi9⟩ | hh
    · match i9, hi9 with
      | 0, hi9 => cases hi9; omega
      | 1, hi9 => cases hi9; omega
      | z + 2, hi9 => cases hi9
    · omega
  have hbd : ∀ (n : Nat) (f : Nat → Int32) (i : Nat) (q : Nat × va_E), (zbd cB b da n f)[i]? = some q → H.size ≤ q.1 := by
    intro n f i q hi
    match i, hi with
    | 0, hi => cases hi; exact hbz
    | 1, hi => cases hi; exact hda
    | z + 2, hi => cases hi
  have hge : ∀ (n : Nat) (f : Nat → Int32) (z x : Nat), H.size ≤ z → va_A (zbd cB b da n f) z x → H.size ≤ x := by
    intro n f z x hzz hh
    rcases hh with ⟨i9, e, hi9⟩ | hh
    · exact hbd n f i9 (x, e) hi9
    · exact Nat.le_trans hzz hh
  have hhead : ∀ (n : Nat) (rls : Array Slot) (H9 : Heap) (locs : List Loc), n ≤ wd → lv_has rls 4 [(3, .int (nI n)), (2, .ref b), (0, .ref (L.getD 6 0)), (1, .int (Int32.ofInt k))] → zRel X L (zN L0 K9 (zhi s) R G nc ns) H9 locs → (n = wd → zWX X H9 locs 2 20 (F0 (xm X) 82 rls [])) → (n < wd → zWX X H9 locs 2 20 (F0 (xm X) 53 rls [])) → zWX X H9 locs 2 20 (F0 (xm X) 39 rls []) := by
    intro n rls H9 locs hn hl hh kt kf
    refine lv_iload_n hx hb (show decode (zmB zm_row) 39 = .ok (.iload_n 3, 1) from by decide +kernel) rfl (lv_at hl 0 rfl) ?_
    refine lv_aload_n hx hb (show decode (zmB zm_row) 40 = .ok (.aload_n 0, 1) from by decide +kernel) rfl (lv_at hl 2 rfl) ?_
    refine zr_get F (idx := 10) (a := 6) (k := 0) (n := 2) (j := 0) (N := 2) (C := "Siegelines") (T := F_Main) (v := .ref (L.getD 7 0)) hh (by rw [ecl]; rfl) (by decide) (by rw [eow]; exact hsub _ (zat_t (by decide +kernel))) (by rw [ecc]; decide +kernel) rfl (by rw [eft]; exact congrArg (zt L) (zr_6_0 S)) ?_
    refine zr_get F (idx := 38) (a := 7) (k := 1) (n := 17) (j := 0) (N := 17) (C := "Siegelines$Siege") (T := F_Siege) (v := .ref (L.getD 8 0)) hh (by rw [ecl]; rfl) (by decide) (by rw [eow]; exact hsub _ (zat_t (by decide +kernel))) (by rw [ecc]; decide +kernel) rfl (by rw [eft]; exact congrArg (zt L) (zr_7_0 S)) ?_
    refine zr_get F (idx := 372) (a := 8) (k := 2) (n := 14) (j := 9) (N := 14) (C := "Siegelines$Ground") (T := F_Ground) (v := .int (nI wd)) hh (by rw [ecl]; rfl) (by decide) (by rw [eow]; exact hsub _ (zat_t (by decide +kernel))) (by rw [ecc]; decide +kernel) rfl (by rw [eft]; exact congrArg Value.int ew) ?_
    exact lv_icmp_ge hx hb (show decode (zmB zm_row) 50 = .ok (.if_icmp .ge 32, 3) from by decide +kernel) (tgt := 82) (by decide) (fun q => kt (by have := (nI_leI (by omega) (by omega)).mp q; omega)) (fun q => kf (by
      rcases Nat.lt_or_ge n wd with h | h
      · exact h
      · exact absurd (nI_le h (by omega)) q))
  have loop : ∀ (j n : Nat) (rls : Array Slot) (H9 : Heap) (locs : List Loc) (f : Nat → Int32), n + j = wd → lv_has rls 4 [(3, .int (nI n)), (2, .ref b), (0, .ref (L.getD 6 0)), (1, .int (Int32.ofInt k))] → zRel X L (zN L0 K9 (zhi s) R G nc ns) H9 locs → H.size ≤ H9.size → va_P D zbC (zbd cB b da n f) H9 → va_D (xA X) (zbd cB b da n f) → sb_Fit f → zWX X H9 locs 2 20 (F0 (xm X) 39 rls []) := by
    intro j
    induction j with
    | zero =>
      intro n rls H9 locs f hn hl hh hs hP hD hf
      obtain rfl : n = wd := by omega
      refine hhead n rls H9 locs (Nat.le_refl _) hl hh (fun _ => ?_) (fun h => absurd h (Nat.lt_irrefl _))
      refine lv_aload_n hx hb (show decode (zmB zm_row) 82 = .ok (.aload_n 2, 1) from by decide +kernel) rfl (lv_at hl 1 rfl) ?_
      refine zb_V (q := zj_toS) (vs := []) (rest := []) XB hR (zjt_toS hw16 hf) ⟨zat_t (by decide +kernel), zat_t (by decide +kernel), zat_t (by decide +kernel), rfl, ⟨by decide +kernel, by decide +kernel⟩, (show (parseMethodDescriptor (zmN zj_toS).desc).map (fun d => d.parameters.length) = some 0 from by decide +kernel), by decide, by decide⟩ (zat_t (by decide +kernel)) hsT 0 rfl rfl (by decide) (Nat.le_of_ble_eq_true rfl) (show decode (zmB zm_row) 83 = .ok (.invokevirtual 383, 3) from by decide +kernel) hl.1 hP hD hh.2.2.2.2.2.2.2.1 rfl ?_
      intro v9 w9 H3 locs3 h9 hP3 hD3 hS3 hq3
      obtain ⟨sa, va, f1, rfl, rfl⟩ := h9
      have hh3 := hh.mw (fun i q hi => hq3.2.1 q.1 (Nat.lt_of_lt_of_le (hzl i q hi) hs) (hsg i q hi n f H9.size hs)) hS3
      show zWX X H3 locs3 _ _ _
      unfold zWX
      rw [hQ, hr1, hr2]
      refine vx_ret ?_
      refine W.widen (k := 16) (n := 400) (by decide) (by decide) ?_
      exact W.aret hx hb O.2.2.2.2.2.1 (Or.inl ⟨_, rfl⟩) (Or.inr ⟨_, rfl⟩) (fun t ht _ => ⟨⟨L, sa, va, f1, rfl, by rw [← hY]; exact (hh3.end_ ht).1, by rw [ht]; exact hP3.sub [2, 3] rfl, hD3.sub [2, 3] (by decide) rfl, Nat.le_trans h1.2.2.2.2.2.2.2.1.1 (hge n f H9.size sa hs (hq3.2.2.2 2 _ rfl)), Nat.le_trans h1.2.2.2.2.2.2.2.1.1 (hge n f H9.size va hs (hq3.2.2.2 3 _ rfl))⟩, (hh3.end_ ht).2⟩) hS3.2.2 (show decode (zmB zm_row) 86 = .ok (.areturn, 1) from by decide +kernel) O.2.2.2.2.1
    | succ j ih =>
      intro n rls H9 locs f hn hl hh hs hP hD hf
      refine hhead n rls H9 locs (by omega) hl hh (fun h => absurd h (by omega)) (fun hlt => ?_)
      refine lv_aload_n hx hb (show decode (zmB zm_row) 53 = .ok (.aload_n 2, 1) from by decide +kernel) rfl (lv_at hl 1 rfl) ?_
      refine lv_aload_n hx hb (show decode (zmB zm_row) 54 = .ok (.aload_n 0, 1) from by decide +kernel) rfl (lv_at hl 2 rfl) ?_
      refine lv_iload_n hx hb (show decode (zmB zm_row) 55 = .ok (.iload_n 1, 1) from by decide +kernel) rfl (lv_at hl 3 rfl) ?_
      refine lv_aload_n hx hb (show decode (zmB zm_row) 56 = .ok (.aload_n 0, 1) from by decide +kernel) rfl (lv_at hl 2 rfl) ?_
      refine zr_get F (idx := 10) (a := 6) (k := 0) (n := 2) (j := 0) (N := 2) (C := "Siegelines") (T := F_Main) (v := .ref (L.getD 7 0)) hh (by rw [ecl]; rfl) (by decide) (by rw [eow]; exact hsub _ (zat_t (by decide +kernel))) (by rw [ecc]; decide +kernel) rfl (by rw [eft]; exact congrArg (zt L) (zr_6_0 S)) ?_
      refine zr_get F (idx := 38) (a := 7) (k := 1) (n := 17) (j := 0) (N := 17) (C := "Siegelines$Siege") (T := F_Siege) (v := .ref (L.getD 8 0)) hh (by rw [ecl]; rfl) (by decide) (by rw [eow]; exact hsub _ (zat_t (by decide +kernel))) (by rw [ecc]; decide +kernel) rfl (by rw [eft]; exact congrArg (zt L) (zr_7_0 S)) ?_
      refine zr_get F (idx := 372) (a := 8) (k := 2) (n := 14) (j := 9) (N := 14) (C := "Siegelines$Ground") (T := F_Ground) (v := .int (nI wd)) hh (by rw [ecl]; rfl) (by decide) (by rw [eow]; exact hsub _ (zat_t (by decide +kernel))) (by rw [ecc]; decide +kernel) rfl (by rw [eft]; exact congrArg Value.int ew) ?_
      refine lv_imul hx hb (show decode (zmB zm_row) 66 = .ok (.imul, 1) from by decide +kernel) ?_
      refine lv_iload_n hx hb (show decode (zmB zm_row) 67 = .ok (.iload_n 3, 1) from by decide +kernel) rfl (lv_at hl 0 rfl) ?_
      refine lv_iadd hx hb (show decode (zmB zm_row) 68 = .ok (.iadd, 1) from by decide +kernel) ?_
      obtain ⟨ch, hch, hM⟩ := sg (Int32.ofInt k * nI wd + nI n)
      refine zr_sign F V9 O ecl (by rw [hl1, hY]; exact hM) rfl hh hl.1 (Nat.le_of_ble_eq_true rfl) ⟨by rw [hR]; decide, by rw [hR]; decide⟩ (fun H3 locs3 hh3 hz3 hq3 => ?_)
      have hP3 : va_P D zbC (zbd cB b da n f) H3 := hP.kept (fun i q hi => hq3 q.1 ((hP i q hi).lt) (fun hz => by
        have h8 := hbd n f i q hi
        rcases hz with ⟨i9, e, hi9⟩ | hz
        · have := hzl i9 (q.1, e) hi9
          omega
        · have := (hP i q hi).lt
          omega))
      refine zb_V (q := zj_app) (vs := [.int (nI ch)]) (rest := []) XB hR (zjt_app hch.1 (by omega) hf) ⟨zat_t (by decide +kernel), zat_t (by decide +kernel), zat_t (by decide +kernel), rfl, ⟨by decide +kernel, by decide +kernel⟩, (show (parseMethodDescriptor (zmN zj_app).desc).map (fun d => d.parameters.length) = some 1 from by decide +kernel), by decide, by decide⟩ (zat_t (by decide +kernel)) hsA 0 rfl rfl (by decide) (Nat.le_of_ble_eq_true rfl) (show decode (zmB zm_row) 72 = .ok (.invokevirtual 379, 3) from by decide +kernel) hl.1 hP3 hD hh3.2.2.2.2.2.2.2.1 rfl ?_
      intro v9 w9 H4 locs4 h9 hP4 hD4 hS4 hq4
      obtain ⟨rfl, f1, hf1, rfl⟩ := h9
      have hs3 : H.size ≤ H3.size := Nat.le_trans hs hz3
      have hh4 := hh3.mw (fun i q hi => hq4.2.1 q.1 (Nat.lt_of_lt_of_le (hzl i q hi) hs3) (hsg i q hi n f H3.size hs3)) hS4
      refine lv_pop hx hb (show decode (zmB zm_row) 75 = .ok (.pop, 1) from by decide +kernel) rfl ?_
      refine lv_iinc (k := 0) (v := nI (n + 1)) (lv' := [(3, .int (nI (n + 1))), (2, .ref b), (0, .ref (L.getD 6 0)), (1, .int (Int32.ofInt k))]) hx hb (show decode (zmB zm_row) 76 = .ok (.iinc 3 1, 3) from by decide +kernel) hl rfl (by rw [show Int32.ofInt 1 = (1 : Int32) from by decide +kernel]; exact nI_1 n) (by decide) rfl fun rls5 hl5 => ?_
      refine lv_goto hx hb (show decode (zmB zm_row) 79 = .ok (.goto (-40), 3) from by decide +kernel) (tgt := 39) (by decide) ?_
      exact ih (n + 1) rls5 H4 locs4 f1 (by omega) hl5 hh4 (Nat.le_trans hs3 hq4.1) hP4 hD4 hf1
  exact loop wd 0 rls4 H2 locs2 _ (by omega) hl4 hh2 hz2' hP2 hD2 (fun _ => by decide +kernel)
