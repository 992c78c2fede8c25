/-! the map's rows: the walk of Siegelines.row -/
/-- what a row's end says: a text of that length, the siege as it was -/
def zRq (Y : zY) (D : va_G) (cB : ClassId) (σ : zS) (wd : Nat) (A : Nat → Prop) (L0 : List Nat) : Array Value → State → Outcome → State → Prop := fun _ st oc t => (∃ (Lf : List Nat) (sa va : Nat) (f1 : Nat → Int32), oc = .returned (some (.ref sa)) ∧ zEnd Y A L0 Lf σ t ∧ va_P D zbC [(sa, .inr (1, [.ref va, .int 0, .int 0, .int 0])), (va, .inl (cB, wd, .inl f1))] t.heap ∧ va_D A [(sa, .inr (1, [.ref va, .int 0, .int 0, .int 0])), (va, .inl (cB, wd, .inl f1))]) ∧ va_F A st t
theorem zRel.mw {X : zX} {L : List Nat} {σ : zS} {H H1 : Heap} {locs locs1 : List Loc} (h : zRel X L σ H locs) (hq : ∀ (k : Nat) (q : Nat × va_E), (zw (xft X) (xcA X) (xmo X) L σ)[k]? = some q → H1[q.1]? = H[q.1]?) (hS : va_S (xA X) (xs X).heap H1 locs1) : zRel X L σ H1 locs1 := by
  obtain ⟨r1, r2, r3, r4, r5, r6, r7, r8, r9, r10, r11⟩ := h
  exact ⟨r1, r2, r3, r4, r5, fun k q hk => (r6 k q hk).kept (hq k q hk), r7, hS, r9, r10, r11⟩
theorem zwd_of {w : Int} (h : 0 ≤ w ∧ w < 2147483648) : Int32.ofInt w = nI w.toNat := Int32.toInt_inj.mp (by rw [zj_ti (by omega), nI_toInt (by omega)]; omega)
set_option maxRecDepth 20000 in
set_option maxHeartbeats 4000000 in
theorem zrow_met {l : Launch} {Y : zY} (hl : l.stackTraces = false) (e1 : Y.1.2.1 = zCl) (e2 : Y.1.2.2.1 = zFt) {L0 : Nat} {K9 : zK} {s : zJ} {R : Nat → Nat → Option Nat} {G : Nat → Nat → Int64} {nc ns : Nat} {g : Nat → Int} {U F0' T B ph : Int} (S : zSR R) (V : zV g U F0' T B ph s) {k : Int} (hk : 0 ≤ k ∧ k < g 1) (D : va_G) (cB : ClassId) :
    ∀ (L : List Nat) (sz : Nat), vx_Met l (zmN zm_row) (zws zm_row) (zrm zm_row 16 400) (zPk Y D cB L (zN L0 K9 (zhi s) R G nc ns) sz [.ref 6, .int (Int32.ofInt k)]) (zRq Y D cB (zN L0 K9 (zhi s) R G nc ns) (g 0).toNat (va_A (zw Y.1.2.2.1 Y.1.2.2.2 Y.2.1 L (zN L0 K9 (zhi s) R G nc ns)) sz) L) (fun _ _ _ => False) 16 400 (va_A (zw Y.1.2.2.1 Y.1.2.2.2 Y.2.1 L (zN L0 K9 (zhi s) R G nc ns)) sz) := by
  have hg := zA_geo (zV_zA V)
  have ew : zhi s 8 9 = nI (g 0).toNat := by
    show Int32.ofInt (s 8 9) = _
    rw [hg.1.1]
    exact zwd_of (by omega)
  obtain ⟨wd, hwd⟩ : ∃ wd : Nat, wd = (g 0).toNat := ⟨_, rfl⟩
  rw [← hwd] at ew ⊢
  have hw16 : wd < 16 := by omega
  have sg : ∀ z : Int32, ∃ ch : Nat, zch ch ∧ zMet l Y (fun _ => zm_sign) 0 [.ref 6, .int z] (zN L0 K9 (zhi s) R G nc ns) (.inl (some (.int (nI ch)))) (zN L0 K9 (zhi s) R G nc ns) := by
    intro z
    obtain ⟨v, hv, rfl⟩ := zj_w z
    exact zsign_met hl e1 e2 S V hv
  refine zmet_ofQ (Qc := zRq Y D cB (zN L0 K9 (zhi s) R G nc ns) wd) (D9 := D) (cB9 := cB) hl (Nat.le_of_ble_eq_true rfl) (by decide +kernel) (by rw [e1, e2]; exact zCls_ok) rfl ?_
  intro X F O hl1 hY V9 hn1 hn2 hr1 hr2 hK9 hQ
  have ecc : xcc X = zmB zm_row := O.1
  have eow : xown X = "Siegelines" := O.2.2.1
  have hsub : ∀ w ∈ zTb, w ∈ xTs X := fun w hw => by rw [O.2.2.2.1]; exact List.mem_cons_of_mem _ hw
  have ecl : xcl X = zCl := by rw [← e1, ← hY]
  have eft : xft X = zFt := by rw [← e2, ← hY]
  have hz1 : znc (zN L0 K9 (zhi s) R G nc ns) - xnc X = 0 := by rw [hn1]; exact Nat.sub_self _
  have hz2 : zns (zN L0 K9 (zhi s) R G nc ns) - xns X = 0 := by rw [hn2]; exact Nat.sub_self _
  obtain ⟨kv, XB⟩ := zX_zbK F V9 O hK9
  have hx := XB.1
  have hb := XB.2.1
  have hown : (xs X).vm.findClass "Siegelines" = some (xm X).cls := XB.2.2.2.1
  have hts := XB.2.2.2.2.1
  have hA := XB.2.2.2.2.2.2.1
  have hR : xR X = zrm zm_row 16 400 := by
    have h9 := zR_eta (R := xR X) (q := zm_row) O.2.2.2.2.2.2.2.2.1 O.2.2.2.2.2.2.2.2.2.1
    rw [hr1, hr2] at h9
    exact h9
  have hsA : (Cond.selects "java/lang/StringBuilder" (zmN zj_app) (zmN zj_app)).before (xa X) (xs X) = true := hts _ (zat_t (by decide +kernel))
  have hsT : (Cond.selects "java/lang/StringBuilder" (zmN zj_toS) (zmN zj_toS)).before (xa X) (xs X) = true := hts _ (zat_t (by decide +kernel))
  have hw0 : ∀ w9 : va_W, w9 = [] → True := fun _ _ => trivial
  show zC X 0 [some (.ref 6), some (.int (Int32.ofInt k)), none, none] [] _
  refine zs_iload_n F (k := 1) (by rw [ecc]; decide +kernel) rfl ?_
  refine zs_if_lt F (t := 18) (by decide) (by rw [ecc]; decide +kernel) (fun q => ?_) (fun q => ?_)
  · rw [show (0 : Int32) = Int32.ofInt 0 from rfl, zj_lt (by omega) (by decide)] at q
    omega
  refine zs_iload_n F (k := 1) (by rw [ecc]; decide +kernel) rfl ?_
  refine zs_aload_n F (k := 0) (by rw [ecc]; decide +kernel) rfl ?_
  refine zs_getv F (idx := 10) (k := 0) (n := 2) (j := 0) (N := 2) (C := "Siegelines") (T := F_Main) (v := .ref 7) (by rw [ecl]; rfl) (by decide) (by rw [eow]; exact hsub _ (zat_t (by decide +kernel))) (by rw [ecc]; decide +kernel) rfl (by rw [eft]; exact zr_6_0 S) ?_
  refine zs_getv F (idx := 38) (k := 1) (n := 17) (j := 0) (N := 17) (C := "Siegelines$Siege") (T := F_Siege) (v := .ref 8) (by rw [ecl]; rfl) (by decide) (by rw [eow]; exact hsub _ (zat_t (by decide +kernel))) (by rw [ecc]; decide +kernel) rfl (by rw [eft]; exact zr_7_0 S) ?_
  refine zs_getv F (idx := 364) (k := 2) (n := 14) (j := 10) (N := 14) (C := "Siegelines$Ground") (T := F_Ground) (v := .int (zhi s 8 10)) (by rw [ecl]; rfl) (by decide) (by rw [eow]; exact hsub _ (zat_t (by decide +kernel))) (by rw [ecc]; decide +kernel) rfl (by rw [eft]; rfl) ?_
  refine zs_icmp_lt F (t := 29) (by decide) (by rw [ecc]; decide +kernel) (fun q => ?_) (fun q => ?_)
  case refine_2 =>
    exfalso
    apply q
    show Int32.ofInt k < Int32.ofInt (s 8 10)
    rw [hg.1.2.1, zj_lt (by omega) (by omega)]
    exact hk.2
  intro L rls H locs h1 h2 h3 h4
  rw [hz1, hz2]
  have hl2 : lv_has rls 4 [(0, .ref (L.getD 6 0)), (1, .int (Int32.ofInt k))] := ⟨h2.1.trans O.2.1, h2.2.1, fun q hq => by
    rcases List.mem_cons.mp hq with rfl | hq
    · exact h2.2.2.2 0 (.ref 6) rfl
    · rcases List.mem_singleton.mp hq with rfl
      exact h2.2.2.2 1 (.int (Int32.ofInt k)) rfl⟩
  have hzl : ∀ (i : Nat) (q : Nat × va_E), (zw (xft X) (xcA X) (xmo X) L (zN L0 K9 (zhi s) R G nc ns))[i]? = some q → q.1 < H.size := fun i q hi => (h1.2.2.2.2.2.1 i q hi).lt
  refine zb_new (T := zTB) (N := 4) (ci := 0) (D := D) (cl := zbC) (ws := []) (A := xA X) (H0 := (xs X).heap) (tys := [(cB, .byte)]) hx hb hts zu_B zyB zTB_t hown (hts (Cond.classLink "Siegelines" 369 "java/lang/StringBuilder") (zat_t (by decide +kernel))) (hts (Cond.instantiable "java/lang/StringBuilder" 4) (zat_t (by decide +kernel))) (hts (Cond.initialized "java/lang/StringBuilder") (zat_t (by decide +kernel))) hK9 (fun k q h => nomatch h) ⟨fun i j p q h => nomatch h, fun k q h => nomatch h⟩ h1.2.2.2.2.2.2.2.1 hA rfl (fs := [.null, .int 0, .int 0, .int 0]) (fun j hj => match j, hj with | 0, _ => rfl | 1, _ => rfl | 2, _ => rfl | 3, _ => rfl | z + 4, h9 => absurd h9 (by omega)) (by rw [hR]; decide) (by rw [hR]; decide) (show decode (zmB zm_row) 29 = .ok (.new 369, 3) from by decide +kernel) fun b H1 hbz hz hq hP hD hS => ?_
  have hP : va_P D zbC [(b, .inr (0, [.null, .int 0, .int 0, .int 0]))] H1 := hP
  have hD : va_D (xA X) [(b, .inr (0, [.null, .int 0, .int 0, .int 0]))] := hD
  refine lv_dup hx hb (show decode (zmB zm_row) 32 = .ok (.dup, 1) from by decide +kernel) rfl ?_
  refine zb_I (q := zj_init) (vs := []) (rest := [.ref b]) XB hR zjt_init ⟨zat_t (by decide +kernel), zat_t (by decide +kernel), zat_t (by decide +kernel), rfl, ⟨by decide +kernel, by decide +kernel⟩, (show (parseMethodDescriptor (zmN zj_init).desc).map (fun d => d.parameters.length) = some 0 from by decide +kernel), by decide, by decide⟩ (zat_t (by decide +kernel)) rfl rfl (by decide) (Nat.le_of_ble_eq_true rfl) (show decode (zmB zm_row) 33 = .ok (.invokespecial 371, 3) from by decide +kernel) hl2.1 hP hD hS rfl ?_
  intro v9 w9 H2 locs2 h9 hP2 hD2 hS2 hq2
  obtain ⟨rfl, da, rfl⟩ := h9
  have hda : H.size ≤ da := by
    rcases hq2.2.2.2 1 (da, .inl (cB, 16, .inl (fun _ => 0))) rfl with ⟨i, e, hi⟩ | h
    · cases i with
      | zero => cases hi; exact hbz
      | succ i => cases hi
    · exact Nat.le_trans hz h
  have hh2 : zRel X L (zN L0 K9 (zhi s) R G nc ns) H2 locs2 := h1.mw (fun i q hi => by
    have hlt := hzl i q hi
    rw [hq2.2.1 q.1 (Nat.lt_of_lt_of_le hlt hz) (fun hh => ?_), hq q.1 hlt]
    rcases hh with ⟨i9, e, hi9⟩ | hh
    · cases i9 with
      | zero => cases hi9; omega
      | succ i9 => cases hi9
    · omega) hS2
  have hz2' : H.size ≤ H2.size := Nat.le_trans hz hq2.1
  refine lv_astore_n (lv' := [(2, .ref b), (0, .ref (L.getD 6 0)), (1, .int (Int32.ofInt k))]) hx hb (show decode (zmB zm_row) 36 = .ok (.astore_n 2, 1) from by decide +kernel) rfl hl2 (by decide) rfl fun rls3 hl3 => ?_
  refine lv_iconst (v := nI 0) hx hb (show decode (zmB zm_row) 37 = .ok (.iconst 0, 1) from by decide +kernel) (by decide +kernel) ?_
  refine lv_istore_n (lv' := [(3, .int (nI 0)), (2, .ref b), (0, .ref (L.getD 6 0)), (1, .int (Int32.ofInt k))]) hx hb (show decode (zmB zm_row) 38 = .ok (.istore_n 3, 1) from by decide +kernel) rfl hl3 (by decide) rfl fun rls4 hl4 => ?_
  have loop : ∀ (j n : Nat) (rls : Array Slot) (H9 : Heap) (locs : List Loc) (f : Nat → Int32), n + j = wd → lv_has rls 4 [(3, .int (nI n)), (2, .ref b), (0, .ref (L.getD 6 0)), (1, .int (Int32.ofInt k))] → zRel X L (zN L0 K9 (zhi s) R G nc ns) H9 locs → H.size ≤ H9.size → va_P D zbC (zbd cB b da n f) H9 → va_D (xA X) (zbd cB b da n f) → sb_Fit f → zWX X H9 locs 2 20 (F0 (xm X) 39 rls []) := by
    intro j
    induction j with
    | zero =>
      intro n rls H9 locs f hn hl hh hs hP hD hf
      obtain rfl : n = wd := by omega
      sorry
    | succ j ih =>
      intro n rls H9 locs f hn hl hh hs hP hD hf
      sorry
  exact loop wd 0 rls4 H2 locs2 _ (by omega) hl4 hh2 hz2' hP2 hD2 (fun _ => by decide +kernel)
