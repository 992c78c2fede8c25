/-! the JDK's texts: the methods (printed by wip/p39/jd.py) -/
def zj_canE : zM := (⟨"java/lang/StringLatin1", "canEncode", "(C)Z"⟩, prog_29_method_3_code, 1, some .boolean, [], [], 0, 0)
def zj_isLat : zM := (⟨"java/lang/AbstractStringBuilder", "isLatin1", "()Z"⟩, prog_19_method_68_code, 1, some .boolean, [], [], 0, 0)
def zj_ensure : zM := (⟨"java/lang/AbstractStringBuilder", "ensureCapacityInternal", "(I)V"⟩, prog_19_method_9_code, 3, none, [], [], 0, 0)
def zj_appA : zM := (⟨"java/lang/AbstractStringBuilder", "append", "(C)Ljava/lang/AbstractStringBuilder;"⟩, prog_19_method_31_code, 2, some (.object "java/lang/AbstractStringBuilder"), [], [], 1, 22)
def zj_app : zM := (⟨"java/lang/StringBuilder", "append", "(C)Ljava/lang/StringBuilder;"⟩, prog_28_method_14_code, 2, some (.object "java/lang/StringBuilder"), [], [], 2, 43)
def zj_initA : zM := (⟨"java/lang/AbstractStringBuilder", "<init>", "(I)V"⟩, prog_19_method_2_code, 2, none, [], [], 1, 20)
def zj_init : zM := (⟨"java/lang/StringBuilder", "<init>", "()V"⟩, prog_28_method_1_code, 1, none, [], [], 2, 41)
def zj_getV : zM := (⟨"java/lang/AbstractStringBuilder", "getValue", "()[B"⟩, prog_19_method_64_code, 1, some (.array .byte), [], [], 0, 0)
def zj_lenA : zM := (⟨"java/lang/AbstractStringBuilder", "length", "()I"⟩, prog_19_method_6_code, 1, some .int, [], [], 0, 0)
def zj_len : zM := (⟨"java/lang/StringBuilder", "length", "()I"⟩, prog_28_method_93_code, 1, some .int, [], [], 1, 20)
def zj_chkL : zM := (⟨"java/util/Arrays", "checkLength", "(II)V"⟩, prog_33_method_131_code, 2, none, [], [], 0, 0)
def zj_cpyB : zM := (⟨"java/util/Arrays", "copyOfRangeByte", "([BII)[B"⟩, prog_33_method_133_code, 5, some (.array .byte), [], [], 1, 40)
def zj_cpy : zM := (⟨"java/util/Arrays", "copyOfRange", "([BII)[B"⟩, prog_33_method_132_code, 3, some (.array .byte), [], [], 2, 64)
def zj_stA : zM := (⟨"java/lang/String", "<init>", "(Ljava/lang/AbstractStringBuilder;Ljava/lang/Void;)V"⟩, prog_27_method_150_code, 5, none, [], [], 3, 86)
def zj_stB : zM := (⟨"java/lang/String", "<init>", "(Ljava/lang/StringBuilder;)V"⟩, prog_27_method_53_code, 2, none, [], [], 4, 110)
def zj_toS : zM := (⟨"java/lang/StringBuilder", "toString", "()Ljava/lang/String;"⟩, prog_28_method_42_code, 1, some (.object "java/lang/String"), [], [], 5, 131)
def zj_cod : zM := (⟨"java/lang/String", "coder", "()B"⟩, prog_27_method_152_code, 1, some .byte, [], [], 0, 0)
def zj_sLen : zM := (⟨"java/lang/String", "length", "()I"⟩, prog_27_method_54_code, 1, some .int, [], [], 1, 20)
/-- a builder of n signs, its row of sixteen -/
abbrev zbd (cB : ClassId) (b da n : Nat) (f : Nat → Int32) : va_W := [(b, .inr (0, [.ref da, .int 0, .int 0, .int (nI n)])), (da, .inl (cB, 16, .inl f))]
theorem zb_255 {k : Nat} (hk : k < 256) : ¬ (255 : Int32) < nI k := show ¬ nI 255 < nI k from nI_nlt (by omega) (by decide)
theorem zb_16 : (16 : Int32) >>> ((0 : Int32) &&& 31) = nI 16 := by decide +kernel
theorem zb_shr (x : Nat) (h : x < 65536) : nI x >>> ((0 : Int32) &&& 31) = nI x := sb_shr0 (nI x)
theorem zb_le16 {n : Nat} (h : n < 16) : nI (n + 1) - nI 16 ≤ 0 := by
  have e1 : (nI (n + 1) - nI 16).toInt = ((n + 1 : Nat) : Int) - (16 : Nat) := pk_sub_toInt (by omega) (by omega)
  rw [Int32.le_iff_toInt_le, e1, Int32.toInt_zero]
  omega
theorem zb_fitn (k : Nat) : fits .byte (.int (vp_nar .byte (sb_b k))) = true := pk_fb _
theorem zb_cB {D : va_G} {s : State} {cA cB : ClassId} (g : va_K D zbC ([(cB, .byte)] ++ [(cA, .byte)]) s) (h : va_K D zbC [(cB, .byte)] s) : cA = cB := by
  have e1 : s.vm.findClass ("[" ++ FieldType.byte.toString) = some cA := (g.2 1 (cA, .byte) rfl).2
  have e2 : s.vm.findClass ("[" ++ FieldType.byte.toString) = some cB := (h.2 0 (cB, .byte) rfl).2
  exact Option.some.inj (e1.symm.trans e2)
set_option maxRecDepth 20000 in
theorem zjt_canE {l : Launch} {kv : (Nat → Nat) × (Nat → Nat)} {D : va_G} {cB : ClassId} {w0 : va_W} {k : Nat} (hk : k < 256) : zbMet l zj_canE kv D cB w0 [.int (nI k)] 0 0 (fun v w => v = some (.int 1) ∧ w = w0) := by
  refine zb_of (by decide +kernel) rfl (Nat.le_of_ble_eq_true rfl) ?_
  intro p e s m args below meth c A R rls hR X hl hP hD hS
  have hx := X.1
  have hb := X.2.1
  have hown : s.vm.findClass "java/lang/StringLatin1" = some m.cls := X.2.2.2.1
  have hts := X.2.2.2.2.1
  have hK := X.2.2.2.2.2.1
  have hA := X.2.2.2.2.2.2.1
  have hZ := X.2.2.2.2.2.2.2.1
  have hr : meth.sig.returnType = some .boolean := X.2.2.2.2.2.2.2.2.1
  have hlocks := X.2.2.2.2.2.2.2.2.2.1
  have hl : lv_has rls 1 [(0, .int (nI k))] := hl
  refine lv_iload_n hx hb (show decode (zmB zj_canE) 0 = .ok (.iload_n 0, 1) from by decide +kernel) rfl (lv_at hl 0 rfl) ?_
  refine lv_sipush (v := 255) hx hb (show decode (zmB zj_canE) 1 = .ok (.sipush 255, 3) from by decide +kernel) (by decide +kernel) ?_
  refine lv_icmp_gt hx hb (show decode (zmB zj_canE) 4 = .ok (.if_icmp .gt 7, 3) from by decide +kernel) (tgt := 11) (by decide) (fun z => absurd z (zb_255 hk)) (fun _ => ?_)
  refine lv_iconst (v := 1) hx hb (show decode (zmB zj_canE) 7 = .ok (.iconst 1, 1) from by decide +kernel) (by decide +kernel) ?_
  refine lv_goto hx hb (show decode (zmB zj_canE) 8 = .ok (.goto 4, 3) from by decide +kernel) (tgt := 12) (by decide) ?_
  refine W.widen (k := 0) (n := 0) (by first | decide | omega) (by first | decide | omega) ?_
  exact W.zret hx hb hr (by first | rfl | decide +kernel) (fun t ht _ => ⟨⟨some (.int 1), _, rfl, ⟨rfl, rfl⟩, by rw [ht]; exact hP, hD⟩, hS.F ht⟩) hS.2.2 (show decode (zmB zj_canE) 12 = .ok (.ireturn, 1) from by decide +kernel) hlocks
set_option maxRecDepth 20000 in
theorem zjt_isLat {l : Launch} {kv : (Nat → Nat) × (Nat → Nat)} {D : va_G} {cB : ClassId} {b da n : Nat} {w1 : va_W} : zbMet l zj_isLat kv D cB ((b, .inr (0, [.ref da, .int 0, .int 0, .int (nI n)])) :: w1) [.ref b] 0 0 (fun v w => v = some (.int 1) ∧ w = (b, .inr (0, [.ref da, .int 0, .int 0, .int (nI n)])) :: w1) := by
  refine zb_of (by decide +kernel) rfl (Nat.le_of_ble_eq_true rfl) ?_
  intro p e s m args below meth c A R rls hR X hl hP hD hS
  have hx := X.1
  have hb := X.2.1
  have hown : s.vm.findClass "java/lang/AbstractStringBuilder" = some m.cls := X.2.2.2.1
  have hts := X.2.2.2.2.1
  have hK := X.2.2.2.2.2.1
  have hA := X.2.2.2.2.2.2.1
  have hZ := X.2.2.2.2.2.2.2.1
  have hr : meth.sig.returnType = some .boolean := X.2.2.2.2.2.2.2.2.1
  have hlocks := X.2.2.2.2.2.2.2.2.2.1
  have hl : lv_has rls 1 [(0, .ref b)] := hl
  refine va_gets hx hb hZ.1 hS hown (hts (Cond.fieldLink "java/lang/AbstractStringBuilder" 18 "java/lang/String" "COMPACT_STRINGS" "Z") (zat_t (by decide +kernel))) (fun _ h => h) (show decode (zmB zj_isLat) 0 = .ok (.getstatic 18, 3) from by decide +kernel) ?_
  refine lv_if_eq hx hb (show decode (zmB zj_isLat) 3 = .ok (.ifCond .eq 14, 3) from by decide +kernel) (tgt := 17) (by decide) (fun z => absurd z (by decide)) (fun _ => ?_)
  refine lv_aload_n hx hb (show decode (zmB zj_isLat) 6 = .ok (.aload_n 0, 1) from by decide +kernel) rfl (lv_at hl 0 rfl) ?_
  refine va_get (ref := "java/lang/AbstractStringBuilder") hx hb hts zu_B hown hK hP 0 rfl rfl 1 (by decide) (hts (Cond.fieldLink "java/lang/AbstractStringBuilder" 22 "java/lang/AbstractStringBuilder" "coder" "B") (zat_t (by decide +kernel))) (fun _ h => h) rfl (show decode (zmB zj_isLat) 7 = .ok (.getfield 22, 3) from by decide +kernel) ?_
  refine lv_if_ne hx hb (show decode (zmB zj_isLat) 10 = .ok (.ifCond .ne 7, 3) from by decide +kernel) (tgt := 17) (by decide) (fun z => absurd z (fun h => h rfl)) (fun _ => ?_)
  refine lv_iconst (v := 1) hx hb (show decode (zmB zj_isLat) 13 = .ok (.iconst 1, 1) from by decide +kernel) (by decide +kernel) ?_
  refine lv_goto hx hb (show decode (zmB zj_isLat) 14 = .ok (.goto 4, 3) from by decide +kernel) (tgt := 18) (by decide) ?_
  refine W.widen (k := 0) (n := 0) (by first | decide | omega) (by first | decide | omega) ?_
  exact W.zret hx hb hr (by first | rfl | decide +kernel) (fun t ht _ => ⟨⟨some (.int 1), _, rfl, ⟨rfl, rfl⟩, by rw [ht]; exact hP, hD⟩, hS.F ht⟩) hS.2.2 (show decode (zmB zj_isLat) 18 = .ok (.ireturn, 1) from by decide +kernel) hlocks
set_option maxRecDepth 20000 in
theorem zjt_ensure {l : Launch} {kv : (Nat → Nat) × (Nat → Nat)} {D : va_G} {cB : ClassId} {b da n : Nat} {f : Nat → Int32} (hn : n < 16) : zbMet l zj_ensure kv D cB (zbd cB b da n f) [.ref b, .int (nI (n + 1))] 0 0 (fun v w => v = none ∧ w = zbd cB b da n f) := by
  refine zb_of (by decide +kernel) rfl (Nat.le_of_ble_eq_true rfl) ?_
  intro p e s m args below meth c A R rls hR X hl hP hD hS
  have hx := X.1
  have hb := X.2.1
  have hown : s.vm.findClass "java/lang/AbstractStringBuilder" = some m.cls := X.2.2.2.1
  have hts := X.2.2.2.2.1
  have hK := X.2.2.2.2.2.1
  have hA := X.2.2.2.2.2.2.1
  have hZ := X.2.2.2.2.2.2.2.1
  have hr : meth.sig.returnType = none := X.2.2.2.2.2.2.2.2.1
  have hlocks := X.2.2.2.2.2.2.2.2.2.1
  have hl : lv_has rls 3 [(0, .ref b), (1, .int (nI (n + 1)))] := hl
  refine lv_aload_n hx hb (show decode (zmB zj_ensure) 0 = .ok (.aload_n 0, 1) from by decide +kernel) rfl (lv_at hl 0 rfl) ?_
  refine va_get (ref := "java/lang/AbstractStringBuilder") hx hb hts zu_B hown hK hP 0 rfl rfl 0 (by decide) (hts (Cond.fieldLink "java/lang/AbstractStringBuilder" 15 "java/lang/AbstractStringBuilder" "value" "[B") (zat_t (by decide +kernel))) (fun _ h => h) rfl (show decode (zmB zj_ensure) 1 = .ok (.getfield 15, 3) from by decide +kernel) ?_
  refine va_alen hx hb hK hP 1 0 rfl rfl (v := 16) rfl (show decode (zmB zj_ensure) 4 = .ok (.arraylength, 1) from by decide +kernel) ?_
  refine lv_aload_n hx hb (show decode (zmB zj_ensure) 5 = .ok (.aload_n 0, 1) from by decide +kernel) rfl (lv_at hl 0 rfl) ?_
  refine va_get (ref := "java/lang/AbstractStringBuilder") hx hb hts zu_B hown hK hP 0 rfl rfl 1 (by decide) (hts (Cond.fieldLink "java/lang/AbstractStringBuilder" 22 "java/lang/AbstractStringBuilder" "coder" "B") (zat_t (by decide +kernel))) (fun _ h => h) rfl (show decode (zmB zj_ensure) 6 = .ok (.getfield 22, 3) from by decide +kernel) ?_
  refine lv_ishr hx hb (show decode (zmB zj_ensure) 9 = .ok (.ishr, 1) from by decide +kernel) ?_
  refine lv_topi (fun y ey => ?_)
  obtain rfl : y = nI 16 := ey.trans zb_16
  refine lv_istore_n (lv' := [(2, .int (nI 16)), (0, .ref b), (1, .int (nI (n + 1)))]) hx hb (show decode (zmB zj_ensure) 10 = .ok (.istore_n 2, 1) from by decide +kernel) rfl hl (by decide) rfl fun rls hl => ?_
  refine lv_iload_n hx hb (show decode (zmB zj_ensure) 11 = .ok (.iload_n 1, 1) from by decide +kernel) rfl (lv_at hl 2 rfl) ?_
  refine lv_iload_n hx hb (show decode (zmB zj_ensure) 12 = .ok (.iload_n 2, 1) from by decide +kernel) rfl (lv_at hl 0 rfl) ?_
  refine lv_isub hx hb (show decode (zmB zj_ensure) 13 = .ok (.isub, 1) from by decide +kernel) ?_
  refine lv_if_le hx hb (show decode (zmB zj_ensure) 14 = .ok (.ifCond .le 24, 3) from by decide +kernel) (tgt := 38) (by decide) (fun _ => ?_) (fun z => absurd (zb_le16 hn) z)
  refine W.widen (k := 0) (n := 0) (by first | decide | omega) (by first | decide | omega) ?_
  exact W.vret hx hb hr (fun t ht _ => ⟨⟨none, _, rfl, ⟨rfl, rfl⟩, by rw [ht]; exact hP, hD⟩, hS.F ht⟩) hS.2.2 (show decode (zmB zj_ensure) 38 = .ok (.return_, 1) from by decide +kernel) hlocks
set_option maxRecDepth 20000 in
theorem zjt_appA {l : Launch} {kv : (Nat → Nat) × (Nat → Nat)} {D : va_G} {cB : ClassId} {b da n : Nat} {f : Nat → Int32} {k : Nat} (hk : k < 256) (hn : n < 16) (hf : sb_Fit f) : zbMet l zj_appA kv D cB (zbd cB b da n f) [.ref b, .int (nI k)] 0 0 (fun v w => v = some (.ref b) ∧ ∃ f1 : Nat → Int32, sb_Fit f1 ∧ w = zbd cB b da (n + 1) f1) := by
  refine zb_of (by decide +kernel) rfl (Nat.le_of_ble_eq_true rfl) ?_
  intro p e s m args below meth c A R rls hR X hl hP hD hS
  have hx := X.1
  have hb := X.2.1
  have hown : s.vm.findClass "java/lang/AbstractStringBuilder" = some m.cls := X.2.2.2.1
  have hts := X.2.2.2.2.1
  have hK := X.2.2.2.2.2.1
  have hA := X.2.2.2.2.2.2.1
  have hZ := X.2.2.2.2.2.2.2.1
  have hr : meth.sig.returnType = some (.object "java/lang/AbstractStringBuilder") := X.2.2.2.2.2.2.2.2.1
  have hlocks := X.2.2.2.2.2.2.2.2.2.1
  have hl : lv_has rls 2 [(0, .ref b), (1, .int (nI k))] := hl
  have hsL : (Cond.selects "java/lang/StringBuilder" (zmN zj_isLat) (zmN zj_isLat)).before args s = true := hts _ (zat_t (by decide +kernel))
  have hsE : (Cond.selects "java/lang/StringBuilder" (zmN zj_ensure) (zmN zj_ensure)).before args s = true := va_tabs rfl rfl hZ.2.2.2
  refine lv_aload_n hx hb (show decode (zmB zj_appA) 0 = .ok (.aload_n 0, 1) from by decide +kernel) rfl (lv_at hl 0 rfl) ?_
  refine lv_aload_n hx hb (show decode (zmB zj_appA) 1 = .ok (.aload_n 0, 1) from by decide +kernel) rfl (lv_at hl 0 rfl) ?_
  refine va_get (ref := "java/lang/AbstractStringBuilder") hx hb hts zu_B hown hK hP 0 rfl rfl 3 (by decide) (hts (Cond.fieldLink "java/lang/AbstractStringBuilder" 79 "java/lang/AbstractStringBuilder" "count" "I") (zat_t (by decide +kernel))) (fun _ h => h) rfl (show decode (zmB zj_appA) 2 = .ok (.getfield 79, 3) from by decide +kernel) ?_
  refine lv_iconst (v := 1) hx hb (show decode (zmB zj_appA) 5 = .ok (.iconst 1, 1) from by decide +kernel) (by decide +kernel) ?_
  refine lv_iadd hx hb (show decode (zmB zj_appA) 6 = .ok (.iadd, 1) from by decide +kernel) ?_
  refine lv_topi (fun y ey => ?_)
  obtain rfl : y = nI (n + 1) := ey.trans (nI_1 n)
  refine zb_V (q := zj_ensure) X hR (zjt_ensure (n := n) hn) ⟨zat_t (by decide +kernel), zat_t (by decide +kernel), zat_t (by decide +kernel), rfl, ⟨by decide +kernel, by decide +kernel⟩, (show (parseMethodDescriptor (zmN zj_ensure).desc).map (fun d => d.parameters.length) = some 1 from by decide +kernel), by decide, by decide⟩ (zat_t (by decide +kernel)) hsE 0 rfl rfl (by decide) (by first | decide | exact Nat.le_of_ble_eq_true rfl) (show decode (zmB zj_appA) 7 = .ok (.invokevirtual 100, 3) from by decide +kernel) hl.1 hP hD hS rfl ?_
  intro v9 w9 H locs h9 hP hD hS _
  obtain ⟨rfl, rfl⟩ := h9
  refine lv_aload_n hx hb (show decode (zmB zj_appA) 10 = .ok (.aload_n 0, 1) from by decide +kernel) rfl (lv_at hl 0 rfl) ?_
  refine zb_V (q := zj_isLat) X hR (zjt_isLat) ⟨zat_t (by decide +kernel), zat_t (by decide +kernel), zat_t (by decide +kernel), rfl, ⟨by decide +kernel, by decide +kernel⟩, (show (parseMethodDescriptor (zmN zj_isLat).desc).map (fun d => d.parameters.length) = some 0 from by decide +kernel), by decide, by decide⟩ (zat_t (by decide +kernel)) hsL 0 rfl rfl (by decide) (by first | decide | exact Nat.le_of_ble_eq_true rfl) (show decode (zmB zj_appA) 11 = .ok (.invokevirtual 83, 3) from by decide +kernel) hl.1 hP hD hS rfl ?_
  intro v9 w9 H locs h9 hP hD hS _
  obtain ⟨rfl, rfl⟩ := h9
  refine lv_if_eq hx hb (show decode (zmB zj_appA) 14 = .ok (.ifCond .eq 31, 3) from by decide +kernel) (tgt := 45) (by decide) (fun z => absurd z (by decide)) (fun _ => ?_)
  refine lv_iload_n hx hb (show decode (zmB zj_appA) 17 = .ok (.iload_n 1, 1) from by decide +kernel) rfl (lv_at hl 1 rfl) ?_
  refine zb_S (q := zj_canE) X hR (zjt_canE hk) ⟨zat_t (by decide +kernel), zat_t (by decide +kernel), zat_t (by decide +kernel), rfl, ⟨by decide +kernel, by decide +kernel⟩, (show (parseMethodDescriptor (zmN zj_canE).desc).map (fun d => d.parameters.length) = some 1 from by decide +kernel), by decide, by decide⟩ (zat_t (by decide +kernel)) (by decide) (by first | decide | exact Nat.le_of_ble_eq_true rfl) (show decode (zmB zj_appA) 18 = .ok (.invokestatic 191, 3) from by decide +kernel) hl.1 hP hD hS rfl ?_
  intro v9 w9 H locs h9 hP hD hS _
  obtain ⟨rfl, rfl⟩ := h9
  refine lv_if_eq hx hb (show decode (zmB zj_appA) 21 = .ok (.ifCond .eq 24, 3) from by decide +kernel) (tgt := 45) (by decide) (fun z => absurd z (by decide)) (fun _ => ?_)
  refine lv_aload_n hx hb (show decode (zmB zj_appA) 24 = .ok (.aload_n 0, 1) from by decide +kernel) rfl (lv_at hl 0 rfl) ?_
  refine va_get (ref := "java/lang/AbstractStringBuilder") hx hb hts zu_B hown hK hP 0 rfl rfl 0 (by decide) (hts (Cond.fieldLink "java/lang/AbstractStringBuilder" 15 "java/lang/AbstractStringBuilder" "value" "[B") (zat_t (by decide +kernel))) (fun _ h => h) rfl (show decode (zmB zj_appA) 25 = .ok (.getfield 15, 3) from by decide +kernel) ?_
  refine lv_aload_n hx hb (show decode (zmB zj_appA) 28 = .ok (.aload_n 0, 1) from by decide +kernel) rfl (lv_at hl 0 rfl) ?_
  refine lv_dup hx hb (show decode (zmB zj_appA) 29 = .ok (.dup, 1) from by decide +kernel) rfl ?_
  refine va_get (ref := "java/lang/AbstractStringBuilder") hx hb hts zu_B hown hK hP 0 rfl rfl 3 (by decide) (hts (Cond.fieldLink "java/lang/AbstractStringBuilder" 79 "java/lang/AbstractStringBuilder" "count" "I") (zat_t (by decide +kernel))) (fun _ h => h) rfl (show decode (zmB zj_appA) 30 = .ok (.getfield 79, 3) from by decide +kernel) ?_
  refine lv_dup_x1 hx hb (show decode (zmB zj_appA) 33 = .ok (.dup_x1, 1) from by decide +kernel) rfl rfl ?_
  refine lv_iconst (v := 1) hx hb (show decode (zmB zj_appA) 34 = .ok (.iconst 1, 1) from by decide +kernel) (by decide +kernel) ?_
  refine lv_iadd hx hb (show decode (zmB zj_appA) 35 = .ok (.iadd, 1) from by decide +kernel) ?_
  refine lv_topi (fun y ey => ?_)
  obtain rfl : y = nI (n + 1) := ey.trans (nI_1 n)
  refine va_put (ref := "java/lang/AbstractStringBuilder") (ty := .int) hx hb hts zu_B zyB zTB_t zTB_n hown hK hP hD hS 0 rfl rfl 3 (by decide) (hts (Cond.fieldLink "java/lang/AbstractStringBuilder" 79 "java/lang/AbstractStringBuilder" "count" "I") (zat_t (by decide +kernel))) (fun _ h => h) rfl (by decide +kernel) rfl rfl (Nat.le_of_ble_eq_true rfl) (show decode (zmB zj_appA) 36 = .ok (.putfield 79, 3) from by decide +kernel) fun H1 locs1 hP hD hS => ?_
  have hP : va_P D zbC (zbd cB b da (n + 1) f) _ := hP
  have hD : va_D A (zbd cB b da (n + 1) f) := hD
  refine lv_iload_n hx hb (show decode (zmB zj_appA) 39 = .ok (.iload_n 1, 1) from by decide +kernel) rfl (lv_at hl 1 rfl) ?_
  refine lv_i2b (v := sb_b k) hx hb (show decode (zmB zj_appA) 40 = .ok (.i2b, 1) from by decide +kernel) rfl ?_
  refine va_bast hx hb hK hP hD hS 1 0 rfl rfl (vp_in_nI hn (by decide)) (show decode (zmB zj_appA) 41 = .ok (.bastore, 1) from by decide +kernel) fun H1 locs1 hP hD hS => ?_
  have hP : va_P D zbC (zbd cB b da (n + 1) (upd f (nI n).toNatClampNeg (vp_nar .byte (sb_b k)))) _ := hP
  have hD : va_D A (zbd cB b da (n + 1) (upd f (nI n).toNatClampNeg (vp_nar .byte (sb_b k)))) := hD
  refine lv_goto hx hb (show decode (zmB zj_appA) 42 = .ok (.goto 33, 3) from by decide +kernel) (tgt := 75) (by decide) ?_
  refine lv_aload_n hx hb (show decode (zmB zj_appA) 75 = .ok (.aload_n 0, 1) from by decide +kernel) rfl (lv_at hl 0 rfl) ?_
  refine W.widen (k := 0) (n := 0) (by first | decide | omega) (by first | decide | omega) ?_
  exact W.aret hx hb hr (by first | exact Or.inl ⟨_, rfl⟩ | exact Or.inr ⟨_, rfl⟩) (Or.inr ⟨_, rfl⟩) (fun t ht _ => ⟨⟨some (.ref b), _, rfl, ⟨rfl, _, sb_fitU hf (zb_fitn k), rfl⟩, by rw [ht]; exact hP, hD⟩, hS.F ht⟩) hS.2.2 (show decode (zmB zj_appA) 76 = .ok (.areturn, 1) from by decide +kernel) hlocks
set_option maxRecDepth 20000 in
theorem zjt_app {l : Launch} {kv : (Nat → Nat) × (Nat → Nat)} {D : va_G} {cB : ClassId} {b da n : Nat} {f : Nat → Int32} {k : Nat} (hk : k < 256) (hn : n < 16) (hf : sb_Fit f) : zbMet l zj_app kv D cB (zbd cB b da n f) [.ref b, .int (nI k)] 0 0 (fun v w => v = some (.ref b) ∧ ∃ f1 : Nat → Int32, sb_Fit f1 ∧ w = zbd cB b da (n + 1) f1) := by
  refine zb_of (by decide +kernel) rfl (Nat.le_of_ble_eq_true rfl) ?_
  intro p e s m args below meth c A R rls hR X hl hP hD hS
  have hx := X.1
  have hb := X.2.1
  have hown : s.vm.findClass "java/lang/StringBuilder" = some m.cls := X.2.2.2.1
  have hts := X.2.2.2.2.1
  have hK := X.2.2.2.2.2.1
  have hA := X.2.2.2.2.2.2.1
  have hZ := X.2.2.2.2.2.2.2.1
  have hr : meth.sig.returnType = some (.object "java/lang/StringBuilder") := X.2.2.2.2.2.2.2.2.1
  have hlocks := X.2.2.2.2.2.2.2.2.2.1
  have hl : lv_has rls 2 [(0, .ref b), (1, .int (nI k))] := hl
  refine lv_aload_n hx hb (show decode (zmB zj_app) 0 = .ok (.aload_n 0, 1) from by decide +kernel) rfl (lv_at hl 0 rfl) ?_
  refine lv_iload_n hx hb (show decode (zmB zj_app) 1 = .ok (.iload_n 1, 1) from by decide +kernel) rfl (lv_at hl 1 rfl) ?_
  refine zb_SU (q := zj_appA) X hR (zjt_appA hk hn hf) ⟨zat_t (by decide +kernel), zat_t (by decide +kernel), zat_t (by decide +kernel), rfl, ⟨by decide +kernel, by decide +kernel⟩, (show (parseMethodDescriptor (zmN zj_appA).desc).map (fun d => d.parameters.length) = some 1 from by decide +kernel), by decide, by decide⟩ (zat_t (by decide +kernel)) (zat_t (by decide +kernel)) (zat_t (by decide +kernel)) (by decide +kernel) 0 rfl rfl (by decide) (by first | decide | exact Nat.le_of_ble_eq_true rfl) (show decode (zmB zj_app) 2 = .ok (.invokespecial 50, 3) from by decide +kernel) hl.1 hP hD hS rfl ?_
  intro v9 w9 H locs h9 hP hD hS _
  obtain ⟨rfl, f1, hf1, rfl⟩ := h9
  refine lv_pop hx hb (show decode (zmB zj_app) 5 = .ok (.pop, 1) from by decide +kernel) rfl ?_
  refine lv_aload_n hx hb (show decode (zmB zj_app) 6 = .ok (.aload_n 0, 1) from by decide +kernel) rfl (lv_at hl 0 rfl) ?_
  refine W.widen (k := 0) (n := 0) (by first | decide | omega) (by first | decide | omega) ?_
  exact W.aret hx hb hr (by first | exact Or.inl ⟨_, rfl⟩ | exact Or.inr ⟨_, rfl⟩) (Or.inr ⟨_, rfl⟩) (fun t ht _ => ⟨⟨some (.ref b), _, rfl, ⟨rfl, f1, hf1, rfl⟩, by rw [ht]; exact hP, hD⟩, hS.F ht⟩) hS.2.2 (show decode (zmB zj_app) 7 = .ok (.areturn, 1) from by decide +kernel) hlocks
set_option maxRecDepth 20000 in
theorem zjt_initA {l : Launch} {kv : (Nat → Nat) × (Nat → Nat)} {D : va_G} {cB : ClassId} {b : Nat} : zbMet l zj_initA kv D cB [(b, .inr (0, [.null, .int 0, .int 0, .int 0]))] [.ref b, .int 16] 1 16 (fun v w => v = none ∧ ∃ da : Nat, w = zbd cB b da 0 (fun _ => 0)) := by
  refine zb_of (by decide +kernel) rfl (Nat.le_of_ble_eq_true rfl) ?_
  intro p e s m args below meth c A R rls hR X hl hP hD hS
  have hx := X.1
  have hb := X.2.1
  have hown : s.vm.findClass "java/lang/AbstractStringBuilder" = some m.cls := X.2.2.2.1
  have hts := X.2.2.2.2.1
  have hK := X.2.2.2.2.2.1
  have hA := X.2.2.2.2.2.2.1
  have hZ := X.2.2.2.2.2.2.2.1
  have hr : meth.sig.returnType = none := X.2.2.2.2.2.2.2.2.1
  have hlocks := X.2.2.2.2.2.2.2.2.2.1
  have hl : lv_has rls 2 [(0, .ref b), (1, .int 16)] := hl
  refine lv_aload_n hx hb (show decode (zmB zj_initA) 0 = .ok (.aload_n 0, 1) from by decide +kernel) rfl (lv_at hl 0 rfl) ?_
  refine W.objInit hx hb hown (hts (.methodLink "java/lang/AbstractStringBuilder" 3 objectInit) (zat_t (by decide +kernel))) (hts (.instanceMethod objectInit) (zat_t (by decide +kernel))) (hts (.code objectInit ⟨#[0xb1]⟩ 1 none) (zat_t (by decide +kernel))) rfl (by rw [X.2.2.1]; exact hl.1) rfl (show decode (zmB zj_initA) 1 = .ok (.invokespecial 3, 3) from by decide +kernel) (by rw [hR]; decide) (by rw [hR]; exact Nat.le_trans (Nat.add_le_add_right (lv_room (m := m) (pc := 1) (ls := rls) (rest := [.ref b]) (st := ([] : List Value)) (Nat.zero_le 8)) 12) (by decide)) ?_
  refine W.eq (g2 := F0 m 4 rls []) rfl ?_
  refine va_gets hx hb hZ.1 hS hown (hts (Cond.fieldLink "java/lang/AbstractStringBuilder" 18 "java/lang/String" "COMPACT_STRINGS" "Z") (zat_t (by decide +kernel))) (fun _ h => h) (show decode (zmB zj_initA) 4 = .ok (.getstatic 18, 3) from by decide +kernel) ?_
  refine lv_if_eq hx hb (show decode (zmB zj_initA) 7 = .ok (.ifCond .eq 18, 3) from by decide +kernel) (tgt := 25) (by decide) (fun z => absurd z (by decide)) (fun _ => ?_)
  refine lv_aload_n hx hb (show decode (zmB zj_initA) 10 = .ok (.aload_n 0, 1) from by decide +kernel) rfl (lv_at hl 0 rfl) ?_
  refine lv_iload_n hx hb (show decode (zmB zj_initA) 11 = .ok (.iload_n 1, 1) from by decide +kernel) rfl (lv_at hl 1 rfl) ?_
  refine va_newa (atype := .byte) hx hb (hts (Cond.arrayClass .byte) (zat_t (by decide +kernel))) rfl hK hP hD hS hA (n := 16) (a0 := (16, .inl (fun _ => 0))) (fun cA => rfl) (by decide) (N' := 16) (by decide +kernel) (by decide) (by rw [hR]; decide) (by rw [hR]; decide) (show decode (zmB zj_initA) 12 = .ok (.newarray .byte, 2) from by decide +kernel) fun da cA' H1 gK hP hD hS => ?_
  have ec : cA' = cB := zb_cB gK hK
  rw [ec] at hP hD
  refine va_put (ref := "java/lang/AbstractStringBuilder") (ty := (.array .byte)) hx hb hts zu_B zyB zTB_t zTB_n hown hK hP hD hS 0 rfl rfl 0 (by decide) (hts (Cond.fieldLink "java/lang/AbstractStringBuilder" 15 "java/lang/AbstractStringBuilder" "value" "[B") (zat_t (by decide +kernel))) (fun _ h => h) rfl (by decide +kernel) rfl rfl (Nat.le_of_ble_eq_true rfl) (show decode (zmB zj_initA) 14 = .ok (.putfield 15, 3) from by decide +kernel) fun H1 locs1 hP hD hS => ?_
  have hP : va_P D zbC ([(b, .inr (0, [.ref da, .int 0, .int 0, .int 0])), (da, .inl (cB, 16, .inl (fun _ => 0)))]) _ := hP
  have hD : va_D A ([(b, .inr (0, [.ref da, .int 0, .int 0, .int 0])), (da, .inl (cB, 16, .inl (fun _ => 0)))]) := hD
  refine lv_aload_n hx hb (show decode (zmB zj_initA) 17 = .ok (.aload_n 0, 1) from by decide +kernel) rfl (lv_at hl 0 rfl) ?_
  refine lv_iconst (v := 0) hx hb (show decode (zmB zj_initA) 18 = .ok (.iconst 0, 1) from by decide +kernel) (by decide +kernel) ?_
  refine va_put (ref := "java/lang/AbstractStringBuilder") (ty := .byte) hx hb hts zu_B zyB zTB_t zTB_n hown hK hP hD hS 0 rfl rfl 1 (by decide) (hts (Cond.fieldLink "java/lang/AbstractStringBuilder" 22 "java/lang/AbstractStringBuilder" "coder" "B") (zat_t (by decide +kernel))) (fun _ h => h) rfl (by decide +kernel) rfl rfl (Nat.le_of_ble_eq_true rfl) (show decode (zmB zj_initA) 19 = .ok (.putfield 22, 3) from by decide +kernel) fun H1 locs1 hP hD hS => ?_
  have hP : va_P D zbC (zbd cB b da 0 (fun _ => 0)) _ := hP
  have hD : va_D A (zbd cB b da 0 (fun _ => 0)) := hD
  refine lv_goto hx hb (show decode (zmB zj_initA) 22 = .ok (.goto 16, 3) from by decide +kernel) (tgt := 38) (by decide) ?_
  refine W.widen (k := 1) (n := 16) (by first | decide | omega) (by first | decide | omega) ?_
  exact W.vret hx hb hr (fun t ht _ => ⟨⟨none, _, rfl, ⟨rfl, da, rfl⟩, by rw [ht]; exact hP, hD⟩, hS.F ht⟩) hS.2.2 (show decode (zmB zj_initA) 38 = .ok (.return_, 1) from by decide +kernel) hlocks
set_option maxRecDepth 20000 in
theorem zjt_init {l : Launch} {kv : (Nat → Nat) × (Nat → Nat)} {D : va_G} {cB : ClassId} {b : Nat} : zbMet l zj_init kv D cB [(b, .inr (0, [.null, .int 0, .int 0, .int 0]))] [.ref b] 1 16 (fun v w => v = none ∧ ∃ da : Nat, w = zbd cB b da 0 (fun _ => 0)) := by
  refine zb_of (by decide +kernel) rfl (Nat.le_of_ble_eq_true rfl) ?_
  intro p e s m args below meth c A R rls hR X hl hP hD hS
  have hx := X.1
  have hb := X.2.1
  have hown : s.vm.findClass "java/lang/StringBuilder" = some m.cls := X.2.2.2.1
  have hts := X.2.2.2.2.1
  have hK := X.2.2.2.2.2.1
  have hA := X.2.2.2.2.2.2.1
  have hZ := X.2.2.2.2.2.2.2.1
  have hr : meth.sig.returnType = none := X.2.2.2.2.2.2.2.2.1
  have hlocks := X.2.2.2.2.2.2.2.2.2.1
  have hl : lv_has rls 1 [(0, .ref b)] := hl
  refine lv_aload_n hx hb (show decode (zmB zj_init) 0 = .ok (.aload_n 0, 1) from by decide +kernel) rfl (lv_at hl 0 rfl) ?_
  refine lv_bipush (v := 16) hx hb (show decode (zmB zj_init) 1 = .ok (.bipush 16, 2) from by decide +kernel) (by decide +kernel) ?_
  refine zb_I (q := zj_initA) X hR (zjt_initA) ⟨zat_t (by decide +kernel), zat_t (by decide +kernel), zat_t (by decide +kernel), rfl, ⟨by decide +kernel, by decide +kernel⟩, (show (parseMethodDescriptor (zmN zj_initA).desc).map (fun d => d.parameters.length) = some 1 from by decide +kernel), by decide, by decide⟩ (zat_t (by decide +kernel)) rfl rfl (by decide) (by first | decide | exact Nat.le_of_ble_eq_true rfl) (show decode (zmB zj_init) 3 = .ok (.invokespecial 1, 3) from by decide +kernel) hl.1 hP hD hS rfl ?_
  intro v9 w9 H locs h9 hP hD hS _
  obtain ⟨rfl, da, rfl⟩ := h9
  refine W.widen (k := 1) (n := 16) (by first | decide | omega) (by first | decide | omega) ?_
  exact W.vret hx hb hr (fun t ht _ => ⟨⟨none, _, rfl, ⟨rfl, da, rfl⟩, by rw [ht]; exact hP, hD⟩, hS.F ht⟩) hS.2.2 (show decode (zmB zj_init) 6 = .ok (.return_, 1) from by decide +kernel) hlocks
set_option maxRecDepth 20000 in
theorem zjt_getV {l : Launch} {kv : (Nat → Nat) × (Nat → Nat)} {D : va_G} {cB : ClassId} {b da n : Nat} {w1 : va_W} : zbMet l zj_getV kv D cB ((b, .inr (0, [.ref da, .int 0, .int 0, .int (nI n)])) :: w1) [.ref b] 0 0 (fun v w => v = some (.ref da) ∧ w = ((b, .inr (0, [.ref da, .int 0, .int 0, .int (nI n)])) :: w1)) := by
  refine zb_of (by decide +kernel) rfl (Nat.le_of_ble_eq_true rfl) ?_
  intro p e s m args below meth c A R rls hR X hl hP hD hS
  have hx := X.1
  have hb := X.2.1
  have hown : s.vm.findClass "java/lang/AbstractStringBuilder" = some m.cls := X.2.2.2.1
  have hts := X.2.2.2.2.1
  have hK := X.2.2.2.2.2.1
  have hA := X.2.2.2.2.2.2.1
  have hZ := X.2.2.2.2.2.2.2.1
  have hr : meth.sig.returnType = some (.array .byte) := X.2.2.2.2.2.2.2.2.1
  have hlocks := X.2.2.2.2.2.2.2.2.2.1
  have hl : lv_has rls 1 [(0, .ref b)] := hl
  refine lv_aload_n hx hb (show decode (zmB zj_getV) 0 = .ok (.aload_n 0, 1) from by decide +kernel) rfl (lv_at hl 0 rfl) ?_
  refine va_get (ref := "java/lang/AbstractStringBuilder") hx hb hts zu_B hown hK hP 0 rfl rfl 0 (by decide) (hts (Cond.fieldLink "java/lang/AbstractStringBuilder" 15 "java/lang/AbstractStringBuilder" "value" "[B") (zat_t (by decide +kernel))) (fun _ h => h) rfl (show decode (zmB zj_getV) 1 = .ok (.getfield 15, 3) from by decide +kernel) ?_
  refine W.widen (k := 0) (n := 0) (by first | decide | omega) (by first | decide | omega) ?_
  exact W.aret hx hb hr (by first | exact Or.inl ⟨_, rfl⟩ | exact Or.inr ⟨_, rfl⟩) (Or.inr ⟨_, rfl⟩) (fun t ht _ => ⟨⟨some (.ref da), _, rfl, ⟨rfl, rfl⟩, by rw [ht]; exact hP, hD⟩, hS.F ht⟩) hS.2.2 (show decode (zmB zj_getV) 4 = .ok (.areturn, 1) from by decide +kernel) hlocks
set_option maxRecDepth 20000 in
theorem zjt_lenA {l : Launch} {kv : (Nat → Nat) × (Nat → Nat)} {D : va_G} {cB : ClassId} {b da n : Nat} {w1 : va_W} : zbMet l zj_lenA kv D cB ((b, .inr (0, [.ref da, .int 0, .int 0, .int (nI n)])) :: w1) [.ref b] 0 0 (fun v w => v = some (.int (nI n)) ∧ w = ((b, .inr (0, [.ref da, .int 0, .int 0, .int (nI n)])) :: w1)) := by
  refine zb_of (by decide +kernel) rfl (Nat.le_of_ble_eq_true rfl) ?_
  intro p e s m args below meth c A R rls hR X hl hP hD hS
  have hx := X.1
  have hb := X.2.1
  have hown : s.vm.findClass "java/lang/AbstractStringBuilder" = some m.cls := X.2.2.2.1
  have hts := X.2.2.2.2.1
  have hK := X.2.2.2.2.2.1
  have hA := X.2.2.2.2.2.2.1
  have hZ := X.2.2.2.2.2.2.2.1
  have hr : meth.sig.returnType = some .int := X.2.2.2.2.2.2.2.2.1
  have hlocks := X.2.2.2.2.2.2.2.2.2.1
  have hl : lv_has rls 1 [(0, .ref b)] := hl
  refine lv_aload_n hx hb (show decode (zmB zj_lenA) 0 = .ok (.aload_n 0, 1) from by decide +kernel) rfl (lv_at hl 0 rfl) ?_
  refine va_get (ref := "java/lang/AbstractStringBuilder") hx hb hts zu_B hown hK hP 0 rfl rfl 3 (by decide) (hts (Cond.fieldLink "java/lang/AbstractStringBuilder" 79 "java/lang/AbstractStringBuilder" "count" "I") (zat_t (by decide +kernel))) (fun _ h => h) rfl (show decode (zmB zj_lenA) 1 = .ok (.getfield 79, 3) from by decide +kernel) ?_
  refine W.widen (k := 0) (n := 0) (by first | decide | omega) (by first | decide | omega) ?_
  exact W.zret hx hb hr (by first | rfl | decide +kernel) (fun t ht _ => ⟨⟨some (.int (nI n)), _, rfl, ⟨rfl, rfl⟩, by rw [ht]; exact hP, hD⟩, hS.F ht⟩) hS.2.2 (show decode (zmB zj_lenA) 4 = .ok (.ireturn, 1) from by decide +kernel) hlocks
set_option maxRecDepth 20000 in
theorem zjt_len {l : Launch} {kv : (Nat → Nat) × (Nat → Nat)} {D : va_G} {cB : ClassId} {b da n : Nat} {w1 : va_W} : zbMet l zj_len kv D cB ((b, .inr (0, [.ref da, .int 0, .int 0, .int (nI n)])) :: w1) [.ref b] 0 0 (fun v w => v = some (.int (nI n)) ∧ w = ((b, .inr (0, [.ref da, .int 0, .int 0, .int (nI n)])) :: w1)) := by
  refine zb_of (by decide +kernel) rfl (Nat.le_of_ble_eq_true rfl) ?_
  intro p e s m args below meth c A R rls hR X hl hP hD hS
  have hx := X.1
  have hb := X.2.1
  have hown : s.vm.findClass "java/lang/StringBuilder" = some m.cls := X.2.2.2.1
  have hts := X.2.2.2.2.1
  have hK := X.2.2.2.2.2.1
  have hA := X.2.2.2.2.2.2.1
  have hZ := X.2.2.2.2.2.2.2.1
  have hr : meth.sig.returnType = some .int := X.2.2.2.2.2.2.2.2.1
  have hlocks := X.2.2.2.2.2.2.2.2.2.1
  have hl : lv_has rls 1 [(0, .ref b)] := hl
  refine lv_aload_n hx hb (show decode (zmB zj_len) 0 = .ok (.aload_n 0, 1) from by decide +kernel) rfl (lv_at hl 0 rfl) ?_
  refine zb_SU (q := zj_lenA) X hR (zjt_lenA) ⟨zat_t (by decide +kernel), zat_t (by decide +kernel), zat_t (by decide +kernel), rfl, ⟨by decide +kernel, by decide +kernel⟩, (show (parseMethodDescriptor (zmN zj_lenA).desc).map (fun d => d.parameters.length) = some 0 from by decide +kernel), by decide, by decide⟩ (zat_t (by decide +kernel)) (zat_t (by decide +kernel)) (zat_t (by decide +kernel)) (by decide +kernel) 0 rfl rfl (by decide) (by first | decide | exact Nat.le_of_ble_eq_true rfl) (show decode (zmB zj_len) 1 = .ok (.invokespecial 343, 3) from by decide +kernel) hl.1 hP hD hS rfl ?_
  intro v9 w9 H locs h9 hP hD hS _
  obtain ⟨rfl, rfl⟩ := h9
  refine W.widen (k := 0) (n := 0) (by first | decide | omega) (by first | decide | omega) ?_
  exact W.zret hx hb hr (by first | rfl | decide +kernel) (fun t ht _ => ⟨⟨some (.int (nI n)), _, rfl, ⟨rfl, rfl⟩, by rw [ht]; exact hP, hD⟩, hS.F ht⟩) hS.2.2 (show decode (zmB zj_len) 4 = .ok (.ireturn, 1) from by decide +kernel) hlocks
set_option maxRecDepth 20000 in
theorem zjt_chkL {l : Launch} {kv : (Nat → Nat) × (Nat → Nat)} {D : va_G} {cB : ClassId} {w0 : va_W} {n : Nat} (hn : n < 16) : zbMet l zj_chkL kv D cB w0 [.int (nI 0), .int (nI n)] 0 0 (fun v w => v = none ∧ w = w0) := by
  refine zb_of (by decide +kernel) rfl (Nat.le_of_ble_eq_true rfl) ?_
  intro p e s m args below meth c A R rls hR X hl hP hD hS
  have hx := X.1
  have hb := X.2.1
  have hown : s.vm.findClass "java/util/Arrays" = some m.cls := X.2.2.2.1
  have hts := X.2.2.2.2.1
  have hK := X.2.2.2.2.2.1
  have hA := X.2.2.2.2.2.2.1
  have hZ := X.2.2.2.2.2.2.2.1
  have hr : meth.sig.returnType = none := X.2.2.2.2.2.2.2.2.1
  have hlocks := X.2.2.2.2.2.2.2.2.2.1
  have hl : lv_has rls 2 [(0, .int (nI 0)), (1, .int (nI n))] := hl
  refine lv_iload_n hx hb (show decode (zmB zj_chkL) 0 = .ok (.iload_n 1, 1) from by decide +kernel) rfl (lv_at hl 1 rfl) ?_
  refine lv_iload_n hx hb (show decode (zmB zj_chkL) 1 = .ok (.iload_n 0, 1) from by decide +kernel) rfl (lv_at hl 0 rfl) ?_
  refine lv_icmp_ge hx hb (show decode (zmB zj_chkL) 2 = .ok (.if_icmp .ge 35, 3) from by decide +kernel) (tgt := 37) (by decide) (fun _ => ?_) (fun z => absurd (nI_le (Nat.zero_le n) (by omega)) z)
  refine W.widen (k := 0) (n := 0) (by first | decide | omega) (by first | decide | omega) ?_
  exact W.vret hx hb hr (fun t ht _ => ⟨⟨none, _, rfl, ⟨rfl, rfl⟩, by rw [ht]; exact hP, hD⟩, hS.F ht⟩) hS.2.2 (show decode (zmB zj_chkL) 37 = .ok (.return_, 1) from by decide +kernel) hlocks
set_option maxRecDepth 20000 in
theorem zjt_cpyB {l : Launch} {kv : (Nat → Nat) × (Nat → Nat)} {D : va_G} {cB : ClassId} {b da st n : Nat} {f : Nat → Int32} {e1 e3 : va_E} (hn : n < 16) (hf : sb_Fit f) : zbMet l zj_cpyB kv D cB [(b, e1), (da, .inl (cB, 16, .inl f)), (st, e3)] [.ref da, .int (nI 0), .int (nI n)] 1 16 (fun v w => ∃ (va : Nat) (f1 : Nat → Int32), v = some (.ref va) ∧ w = [(b, e1), (da, .inl (cB, 16, .inl f)), (st, e3), (va, .inl (cB, n, .inl (f1)))]) := by
  refine zb_of (by decide +kernel) rfl (Nat.le_of_ble_eq_true rfl) ?_
  intro p e s m args below meth c A R rls hR X hl hP hD hS
  have hx := X.1
  have hb := X.2.1
  have hown : s.vm.findClass "java/util/Arrays" = some m.cls := X.2.2.2.1
  have hts := X.2.2.2.2.1
  have hK := X.2.2.2.2.2.1
  have hA := X.2.2.2.2.2.2.1
  have hZ := X.2.2.2.2.2.2.2.1
  have hr : meth.sig.returnType = some (.array .byte) := X.2.2.2.2.2.2.2.2.1
  have hlocks := X.2.2.2.2.2.2.2.2.2.1
  have hl : lv_has rls 5 [(0, .ref da), (1, .int (nI 0)), (2, .int (nI n))] := hl
  refine lv_iload_n hx hb (show decode (zmB zj_cpyB) 0 = .ok (.iload_n 1, 1) from by decide +kernel) rfl (lv_at hl 1 rfl) ?_
  refine lv_iload_n hx hb (show decode (zmB zj_cpyB) 1 = .ok (.iload_n 2, 1) from by decide +kernel) rfl (lv_at hl 2 rfl) ?_
  refine zb_S (q := zj_chkL) X hR (zjt_chkL hn) ⟨zat_t (by decide +kernel), zat_t (by decide +kernel), zat_t (by decide +kernel), rfl, ⟨by decide +kernel, by decide +kernel⟩, (show (parseMethodDescriptor (zmN zj_chkL).desc).map (fun d => d.parameters.length) = some 2 from by decide +kernel), by decide, by decide⟩ (zat_t (by decide +kernel)) (by decide) (by first | decide | exact Nat.le_of_ble_eq_true rfl) (show decode (zmB zj_cpyB) 2 = .ok (.invokestatic 343, 3) from by decide +kernel) hl.1 hP hD hS rfl ?_
  intro v9 w9 H locs h9 hP hD hS _
  obtain ⟨rfl, rfl⟩ := h9
  refine lv_iload_n hx hb (show decode (zmB zj_cpyB) 5 = .ok (.iload_n 2, 1) from by decide +kernel) rfl (lv_at hl 2 rfl) ?_
  refine lv_iload_n hx hb (show decode (zmB zj_cpyB) 6 = .ok (.iload_n 1, 1) from by decide +kernel) rfl (lv_at hl 1 rfl) ?_
  refine lv_isub hx hb (show decode (zmB zj_cpyB) 7 = .ok (.isub, 1) from by decide +kernel) ?_
  refine lv_topi (fun y ey => ?_)
  obtain rfl : y = nI n := ey.trans (pk_sub (Nat.zero_le n))
  refine lv_istore_n (lv' := [(3, .int (nI n)), (0, .ref da), (1, .int (nI 0)), (2, .int (nI n))]) hx hb (show decode (zmB zj_cpyB) 8 = .ok (.istore_n 3, 1) from by decide +kernel) rfl hl (by decide) rfl fun rls hl => ?_
  refine lv_iload_n hx hb (show decode (zmB zj_cpyB) 9 = .ok (.iload_n 3, 1) from by decide +kernel) rfl (lv_at hl 0 rfl) ?_
  refine va_newa (atype := .byte) hx hb (hts (Cond.arrayClass .byte) (zat_t (by decide +kernel))) rfl hK hP hD hS hA (a0 := (n, .inl (fun _ => 0))) (fun cA => rfl) (nI_pos (by omega)) (N' := n) (nI_clamp (by omega)) (by show n * 1 ≤ _; omega) (by rw [hR]; decide) (by rw [hR]; show 0 + 0 + n ≤ 16; omega) (show decode (zmB zj_cpyB) 10 = .ok (.newarray .byte, 2) from by decide +kernel) fun va cA' H1 gK hP hD hS => ?_
  have ec : cA' = cB := zb_cB gK hK
  rw [ec] at hP hD
  have hP : va_P D zbC ([(b, e1), (da, .inl (cB, 16, .inl f)), (st, e3), (va, .inl (cB, n, .inl (fun _ => 0)))]) _ := hP
  have hD : va_D A ([(b, e1), (da, .inl (cB, 16, .inl f)), (st, e3), (va, .inl (cB, n, .inl (fun _ => 0)))]) := hD
  refine lv_astore (lv' := [(4, .ref va), (3, .int (nI n)), (0, .ref da), (1, .int (nI 0)), (2, .int (nI n))]) hx hb (show decode (zmB zj_cpyB) 12 = .ok (.astore 4, 2) from by decide +kernel) hl (by decide) rfl fun rls hl => ?_
  refine lv_aload_n hx hb (show decode (zmB zj_cpyB) 14 = .ok (.aload_n 0, 1) from by decide +kernel) rfl (lv_at hl 2 rfl) ?_
  refine lv_iload_n hx hb (show decode (zmB zj_cpyB) 15 = .ok (.iload_n 1, 1) from by decide +kernel) rfl (lv_at hl 3 rfl) ?_
  refine lv_aload hx hb (show decode (zmB zj_cpyB) 16 = .ok (.aload 4, 2) from by decide +kernel) (lv_at hl 0 rfl) ?_
  refine lv_iconst (v := 0) hx hb (show decode (zmB zj_cpyB) 18 = .ok (.iconst 0, 1) from by decide +kernel) (by decide +kernel) ?_
  refine lv_aload_n hx hb (show decode (zmB zj_cpyB) 19 = .ok (.aload_n 0, 1) from by decide +kernel) rfl (lv_at hl 2 rfl) ?_
  refine va_alen hx hb hK hP 1 0 rfl rfl (v := nI 16) rfl (show decode (zmB zj_cpyB) 20 = .ok (.arraylength, 1) from by decide +kernel) ?_
  refine lv_iload_n hx hb (show decode (zmB zj_cpyB) 21 = .ok (.iload_n 1, 1) from by decide +kernel) rfl (lv_at hl 3 rfl) ?_
  refine lv_isub hx hb (show decode (zmB zj_cpyB) 22 = .ok (.isub, 1) from by decide +kernel) ?_
  refine lv_topi (fun y ey => ?_)
  obtain rfl : y = nI 16 := ey.trans (pk_sub (Nat.zero_le 16))
  refine lv_iload_n hx hb (show decode (zmB zj_cpyB) 23 = .ok (.iload_n 3, 1) from by decide +kernel) rfl (lv_at hl 1 rfl) ?_
  refine va_mmin hx hb (X.2.2.1.trans hl.1.symm) hown (hts (Cond.methodLink "java/util/Arrays" 304 Lib.Math.min.name) (zat_t (by decide +kernel))) (hts (Cond.static Lib.Math.min.name) (zat_t (by decide +kernel))) (hts (Cond.initialized "java/lang/Math") (zat_t (by decide +kernel))) (hts (Cond.code Lib.Math.min.name Lib.Math.min.code 2 (some .int)) (zat_t (by decide +kernel))) (by rw [hR]; decide) (by rw [hR]; exact (by decide : 4 + 13 ≤ 40)) (by rw [hR]; exact (by decide : 0 + 0 + 1 ≤ 1)) (by rw [hR]; show 0 + 0 + n ≤ 16; omega) (show decode (zmB zj_cpyB) 24 = .ok (.invokestatic 304, 3) from by decide +kernel) ?_
  refine lv_topi (fun y ey => ?_)
  obtain rfl : y = nI n := ey.trans (if_pos (nI_lt hn (by decide)))
  have k0 : (nI 0).toNatClampNeg = 0 := by decide
  have k1 : (0 : Int32).toNatClampNeg = 0 := by decide
  have k2 : (nI n).toNatClampNeg = n := nI_clamp (by omega)
  refine va_copyi hx hb (X.2.2.1.trans hl.1.symm) hown (hts (Cond.methodLink "java/util/Arrays" 150 arraycopyName) (zat_t (by decide +kernel))) (hts (Cond.native arraycopyName) (zat_t (by decide +kernel))) (hts (Cond.static arraycopyName) (zat_t (by decide +kernel))) (hts (Cond.initialized "java/lang/System") (zat_t (by decide +kernel))) hK hP hD hS 1 3 0 0 rfl rfl rfl rfl rfl (by decide) (by decide) (nI_pos (by omega)) (by rw [k0, k2]; omega) (by rw [k1, k2]; omega) (fun i _ => hf _) (by rw [hR]; decide) (by rw [hR]; decide +kernel) (show decode (zmB zj_cpyB) 27 = .ok (.invokestatic 150, 3) from by decide +kernel) fun H1 locs1 hP hD hS => ?_
  have hP : va_P D zbC ([(b, e1), (da, .inl (cB, 16, .inl f)), (st, e3), (va, .inl (cB, n, .inl (va_cpy f (fun _ => 0) (nI 0).toNatClampNeg (0 : Int32).toNatClampNeg (nI n).toNatClampNeg)))]) _ := hP
  have hD : va_D A ([(b, e1), (da, .inl (cB, 16, .inl f)), (st, e3), (va, .inl (cB, n, .inl (va_cpy f (fun _ => 0) (nI 0).toNatClampNeg (0 : Int32).toNatClampNeg (nI n).toNatClampNeg)))]) := hD
  refine lv_aload hx hb (show decode (zmB zj_cpyB) 30 = .ok (.aload 4, 2) from by decide +kernel) (lv_at hl 0 rfl) ?_
  refine W.widen (k := 1) (n := 16) (by first | decide | omega) (by first | decide | omega) ?_
  exact W.aret hx hb hr (by first | exact Or.inl ⟨_, rfl⟩ | exact Or.inr ⟨_, rfl⟩) (Or.inr ⟨_, rfl⟩) (fun t ht _ => ⟨⟨some (.ref va), _, rfl, ⟨va, _, rfl, rfl⟩, by rw [ht]; exact hP, hD⟩, hS.F ht⟩) hS.2.2 (show decode (zmB zj_cpyB) 32 = .ok (.areturn, 1) from by decide +kernel) hlocks
set_option maxRecDepth 20000 in
theorem zjt_cpy {l : Launch} {kv : (Nat → Nat) × (Nat → Nat)} {D : va_G} {cB : ClassId} {b da st n : Nat} {f : Nat → Int32} {e1 e3 : va_E} (hn : n < 16) (hf : sb_Fit f) : zbMet l zj_cpy kv D cB [(b, e1), (da, .inl (cB, 16, .inl f)), (st, e3)] [.ref da, .int (nI 0), .int (nI n)] 1 16 (fun v w => ∃ (va : Nat) (f1 : Nat → Int32), v = some (.ref va) ∧ w = [(b, e1), (da, .inl (cB, 16, .inl f)), (st, e3), (va, .inl (cB, n, .inl (f1)))]) := by
  refine zb_of (by decide +kernel) rfl (Nat.le_of_ble_eq_true rfl) ?_
  intro p e s m args below meth c A R rls hR X hl hP hD hS
  have hx := X.1
  have hb := X.2.1
  have hown : s.vm.findClass "java/util/Arrays" = some m.cls := X.2.2.2.1
  have hts := X.2.2.2.2.1
  have hK := X.2.2.2.2.2.1
  have hA := X.2.2.2.2.2.2.1
  have hZ := X.2.2.2.2.2.2.2.1
  have hr : meth.sig.returnType = some (.array .byte) := X.2.2.2.2.2.2.2.2.1
  have hlocks := X.2.2.2.2.2.2.2.2.2.1
  have hl : lv_has rls 3 [(0, .ref da), (1, .int (nI 0)), (2, .int (nI n))] := hl
  refine lv_iload_n hx hb (show decode (zmB zj_cpy) 0 = .ok (.iload_n 1, 1) from by decide +kernel) rfl (lv_at hl 1 rfl) ?_
  refine lv_if_ne hx hb (show decode (zmB zj_cpy) 1 = .ok (.ifCond .ne 9, 3) from by decide +kernel) (tgt := 10) (by decide) (fun z => absurd z (fun h => h nI_0)) (fun _ => ?_)
  refine lv_iload_n hx hb (show decode (zmB zj_cpy) 4 = .ok (.iload_n 2, 1) from by decide +kernel) rfl (lv_at hl 2 rfl) ?_
  refine lv_aload_n hx hb (show decode (zmB zj_cpy) 5 = .ok (.aload_n 0, 1) from by decide +kernel) rfl (lv_at hl 0 rfl) ?_
  refine va_alen hx hb hK hP 1 0 rfl rfl (v := nI 16) rfl (show decode (zmB zj_cpy) 6 = .ok (.arraylength, 1) from by decide +kernel) ?_
  refine lv_icmp_eq hx hb (show decode (zmB zj_cpy) 7 = .ok (.if_icmp .eq 10, 3) from by decide +kernel) (tgt := 17) (by decide) (fun z => absurd z (fun e => by have := (nI_eq (by omega) (by decide)).mp e; omega)) (fun _ => ?_)
  refine lv_aload_n hx hb (show decode (zmB zj_cpy) 10 = .ok (.aload_n 0, 1) from by decide +kernel) rfl (lv_at hl 0 rfl) ?_
  refine lv_iload_n hx hb (show decode (zmB zj_cpy) 11 = .ok (.iload_n 1, 1) from by decide +kernel) rfl (lv_at hl 1 rfl) ?_
  refine lv_iload_n hx hb (show decode (zmB zj_cpy) 12 = .ok (.iload_n 2, 1) from by decide +kernel) rfl (lv_at hl 2 rfl) ?_
  refine zb_S (q := zj_cpyB) X hR (zjt_cpyB hn hf) ⟨zat_t (by decide +kernel), zat_t (by decide +kernel), zat_t (by decide +kernel), rfl, ⟨by decide +kernel, by decide +kernel⟩, (show (parseMethodDescriptor (zmN zj_cpyB).desc).map (fun d => d.parameters.length) = some 3 from by decide +kernel), by decide, by decide⟩ (zat_t (by decide +kernel)) (by decide) (by first | decide | exact Nat.le_of_ble_eq_true rfl) (show decode (zmB zj_cpy) 13 = .ok (.invokestatic 339, 3) from by decide +kernel) hl.1 hP hD hS rfl ?_
  intro v9 w9 H locs h9 hP hD hS _
  obtain ⟨va, f1, rfl, rfl⟩ := h9
  refine W.widen (k := 1) (n := 16) (by first | decide | omega) (by first | decide | omega) ?_
  exact W.aret hx hb hr (by first | exact Or.inl ⟨_, rfl⟩ | exact Or.inr ⟨_, rfl⟩) (Or.inr ⟨_, rfl⟩) (fun t ht _ => ⟨⟨some (.ref va), _, rfl, ⟨va, f1, rfl, rfl⟩, by rw [ht]; exact hP, hD⟩, hS.F ht⟩) hS.2.2 (show decode (zmB zj_cpy) 16 = .ok (.areturn, 1) from by decide +kernel) hlocks
set_option maxRecDepth 20000 in
theorem zjt_stA {l : Launch} {kv : (Nat → Nat) × (Nat → Nat)} {D : va_G} {cB : ClassId} {b da st n : Nat} {f : Nat → Int32} (hn : n < 16) (hf : sb_Fit f) : zbMet l zj_stA kv D cB [(b, .inr (0, [.ref da, .int 0, .int 0, .int (nI n)])), (da, .inl (cB, 16, .inl f)), (st, .inr (1, [.null, .int 0, .int 0, .int 0]))] [.ref st, .ref b, .null] 1 16 (fun v w => v = none ∧ ∃ (va : Nat) (f1 : Nat → Int32), w = [(b, .inr (0, [.ref da, .int 0, .int 0, .int (nI n)])), (da, .inl (cB, 16, .inl f)), (st, .inr (1, [.ref va, .int 0, .int 0, .int 0])), (va, .inl (cB, n, .inl f1))]) := by
  refine zb_of (by decide +kernel) rfl (Nat.le_of_ble_eq_true rfl) ?_
  intro p e s m args below meth c A R rls hR X hl hP hD hS
  have hx := X.1
  have hb := X.2.1
  have hown : s.vm.findClass "java/lang/String" = some m.cls := X.2.2.2.1
  have hts := X.2.2.2.2.1
  have hK := X.2.2.2.2.2.1
  have hA := X.2.2.2.2.2.2.1
  have hZ := X.2.2.2.2.2.2.2.1
  have hr : meth.sig.returnType = none := X.2.2.2.2.2.2.2.2.1
  have hlocks := X.2.2.2.2.2.2.2.2.2.1
  have hl : lv_has rls 5 [(0, .ref st), (1, .ref b), (2, .null)] := hl
  have hsL : (Cond.selects "java/lang/StringBuilder" (zmN zj_isLat) (zmN zj_isLat)).before args s = true := hts _ (zat_t (by decide +kernel))
  have hsG : (Cond.selects "java/lang/StringBuilder" (zmN zj_getV) (zmN zj_getV)).before args s = true := hts _ (zat_t (by decide +kernel))
  refine lv_aload_n hx hb (show decode (zmB zj_stA) 0 = .ok (.aload_n 0, 1) from by decide +kernel) rfl (lv_at hl 0 rfl) ?_
  refine W.objInit hx hb hown (hts (.methodLink "java/lang/String" 1 objectInit) (zat_t (by decide +kernel))) (hts (.instanceMethod objectInit) (zat_t (by decide +kernel))) (hts (.code objectInit ⟨#[0xb1]⟩ 1 none) (zat_t (by decide +kernel))) rfl (by rw [X.2.2.1]; exact hl.1) rfl (show decode (zmB zj_stA) 1 = .ok (.invokespecial 1, 3) from by decide +kernel) (by rw [hR]; decide) (by rw [hR]; exact Nat.le_trans (Nat.add_le_add_right (lv_room (m := m) (pc := 1) (ls := rls) (rest := [.ref st]) (st := ([] : List Value)) (Nat.zero_le 8)) 12) (by decide)) ?_
  refine W.eq (g2 := F0 m 4 rls []) rfl ?_
  refine lv_aload_n hx hb (show decode (zmB zj_stA) 4 = .ok (.aload_n 1, 1) from by decide +kernel) rfl (lv_at hl 1 rfl) ?_
  refine zb_V (q := zj_getV) X hR (zjt_getV) ⟨zat_t (by decide +kernel), zat_t (by decide +kernel), zat_t (by decide +kernel), rfl, ⟨by decide +kernel, by decide +kernel⟩, (show (parseMethodDescriptor (zmN zj_getV).desc).map (fun d => d.parameters.length) = some 0 from by decide +kernel), by decide, by decide⟩ (zat_t (by decide +kernel)) hsG 0 rfl rfl (by decide) (by first | decide | exact Nat.le_of_ble_eq_true rfl) (show decode (zmB zj_stA) 5 = .ok (.invokevirtual 552, 3) from by decide +kernel) hl.1 hP hD hS rfl ?_
  intro v9 w9 H locs h9 hP hD hS _
  obtain ⟨rfl, rfl⟩ := h9
  refine lv_astore_n (lv' := [(3, .ref da), (0, .ref st), (1, .ref b), (2, .null)]) hx hb (show decode (zmB zj_stA) 8 = .ok (.astore_n 3, 1) from by decide +kernel) rfl hl (by decide) rfl fun rls hl => ?_
  refine lv_aload_n hx hb (show decode (zmB zj_stA) 9 = .ok (.aload_n 1, 1) from by decide +kernel) rfl (lv_at hl 2 rfl) ?_
  refine zb_O (q := zj_len) (x := ⟨"java/lang/AbstractStringBuilder", "length", "()I"⟩) (C9 := "java/lang/StringBuilder") X hR (zjt_len) ⟨zat_t (by decide +kernel), zat_t (by decide +kernel), zat_t (by decide +kernel), rfl, ⟨by decide +kernel, by decide +kernel⟩, (show (parseMethodDescriptor "()I").map (fun d => d.parameters.length) = some 0 from by decide +kernel), by decide, by decide⟩ (zat_t (by decide +kernel)) (zat_t (by decide +kernel)) (b0 := prog_19_method_6_code) (m9 := 1) (r0 := some .int) (zat_t (by decide +kernel)) (zat_t (by decide +kernel)) (zat_t (by decide +kernel)) 0 rfl rfl (by decide) (by first | decide | exact Nat.le_of_ble_eq_true rfl) (show decode (zmB zj_stA) 10 = .ok (.invokevirtual 549, 3) from by decide +kernel) hl.1 hP hD hS rfl ?_
  intro v9 w9 H locs h9 hP hD hS _
  obtain ⟨rfl, rfl⟩ := h9
  refine lv_istore (lv' := [(4, .int (nI n)), (3, .ref da), (0, .ref st), (1, .ref b), (2, .null)]) hx hb (show decode (zmB zj_stA) 13 = .ok (.istore 4, 2) from by decide +kernel) hl (by decide) rfl fun rls hl => ?_
  refine lv_aload_n hx hb (show decode (zmB zj_stA) 15 = .ok (.aload_n 1, 1) from by decide +kernel) rfl (lv_at hl 3 rfl) ?_
  refine zb_V (q := zj_isLat) X hR (zjt_isLat) ⟨zat_t (by decide +kernel), zat_t (by decide +kernel), zat_t (by decide +kernel), rfl, ⟨by decide +kernel, by decide +kernel⟩, (show (parseMethodDescriptor (zmN zj_isLat).desc).map (fun d => d.parameters.length) = some 0 from by decide +kernel), by decide, by decide⟩ (zat_t (by decide +kernel)) hsL 0 rfl rfl (by decide) (by first | decide | exact Nat.le_of_ble_eq_true rfl) (show decode (zmB zj_stA) 16 = .ok (.invokevirtual 1047, 3) from by decide +kernel) hl.1 hP hD hS rfl ?_
  intro v9 w9 H locs h9 hP hD hS _
  obtain ⟨rfl, rfl⟩ := h9
  refine lv_if_eq hx hb (show decode (zmB zj_stA) 19 = .ok (.ifCond .eq 22, 3) from by decide +kernel) (tgt := 41) (by decide) (fun z => absurd z (by decide)) (fun _ => ?_)
  refine lv_aload_n hx hb (show decode (zmB zj_stA) 22 = .ok (.aload_n 0, 1) from by decide +kernel) rfl (lv_at hl 2 rfl) ?_
  refine lv_iconst (v := 0) hx hb (show decode (zmB zj_stA) 23 = .ok (.iconst 0, 1) from by decide +kernel) (by decide +kernel) ?_
  refine va_putF (ref := "java/lang/String") (ty := .byte) hx hb hts zu_S zyS zTS_t zTS_n hown hK hP hD hS 2 rfl rfl 1 (by decide) (hts (Cond.fieldLink "java/lang/String" 15 "java/lang/String" "coder" "B") (zat_t (by decide +kernel))) (fun _ h => h) rfl (X.2.2.2.2.2.2.2.2.2.2 rfl) rfl (by decide +kernel) rfl rfl (Nat.le_of_ble_eq_true rfl) (show decode (zmB zj_stA) 24 = .ok (.putfield 15, 3) from by decide +kernel) fun H1 locs1 hP hD hS => ?_
  have hP : va_P D zbC ([(b, .inr (0, [.ref da, .int 0, .int 0, .int (nI n)])), (da, .inl (cB, 16, .inl f)), (st, .inr (1, [.null, .int 0, .int 0, .int 0]))]) _ := hP
  have hD : va_D A ([(b, .inr (0, [.ref da, .int 0, .int 0, .int (nI n)])), (da, .inl (cB, 16, .inl f)), (st, .inr (1, [.null, .int 0, .int 0, .int 0]))]) := hD
  refine lv_aload_n hx hb (show decode (zmB zj_stA) 27 = .ok (.aload_n 0, 1) from by decide +kernel) rfl (lv_at hl 2 rfl) ?_
  refine lv_aload_n hx hb (show decode (zmB zj_stA) 28 = .ok (.aload_n 3, 1) from by decide +kernel) rfl (lv_at hl 1 rfl) ?_
  refine lv_iconst (v := nI 0) hx hb (show decode (zmB zj_stA) 29 = .ok (.iconst 0, 1) from by decide +kernel) (by decide +kernel) ?_
  refine lv_iload hx hb (show decode (zmB zj_stA) 30 = .ok (.iload 4, 2) from by decide +kernel) (lv_at hl 0 rfl) ?_
  refine zb_S (q := zj_cpy) X hR (zjt_cpy hn hf) ⟨zat_t (by decide +kernel), zat_t (by decide +kernel), zat_t (by decide +kernel), rfl, ⟨by decide +kernel, by decide +kernel⟩, (show (parseMethodDescriptor (zmN zj_cpy).desc).map (fun d => d.parameters.length) = some 3 from by decide +kernel), by decide, by decide⟩ (zat_t (by decide +kernel)) (by decide) (by first | decide | exact Nat.le_of_ble_eq_true rfl) (show decode (zmB zj_stA) 32 = .ok (.invokestatic 54, 3) from by decide +kernel) hl.1 hP hD hS rfl ?_
  intro v9 w9 H locs h9 hP hD hS _
  obtain ⟨va, f1, rfl, rfl⟩ := h9
  refine va_putF (ref := "java/lang/String") (ty := (.array .byte)) hx hb hts zu_S zyS zTS_t zTS_n hown hK hP hD hS 2 rfl rfl 0 (by decide) (hts (Cond.fieldLink "java/lang/String" 9 "java/lang/String" "value" "[B") (zat_t (by decide +kernel))) (fun _ h => h) rfl (X.2.2.2.2.2.2.2.2.2.2 rfl) rfl (by decide +kernel) rfl rfl (Nat.le_of_ble_eq_true rfl) (show decode (zmB zj_stA) 35 = .ok (.putfield 9, 3) from by decide +kernel) fun H1 locs1 hP hD hS => ?_
  have hP : va_P D zbC ([(b, .inr (0, [.ref da, .int 0, .int 0, .int (nI n)])), (da, .inl (cB, 16, .inl f)), (st, .inr (1, [.ref va, .int 0, .int 0, .int 0])), (va, .inl (cB, n, .inl f1))]) _ := hP
  have hD : va_D A ([(b, .inr (0, [.ref da, .int 0, .int 0, .int (nI n)])), (da, .inl (cB, 16, .inl f)), (st, .inr (1, [.ref va, .int 0, .int 0, .int 0])), (va, .inl (cB, n, .inl f1))]) := hD
  refine lv_goto hx hb (show decode (zmB zj_stA) 38 = .ok (.goto 59, 3) from by decide +kernel) (tgt := 97) (by decide) ?_
  refine W.widen (k := 1) (n := 16) (by first | decide | omega) (by first | decide | omega) ?_
  exact W.vret hx hb hr (fun t ht _ => ⟨⟨none, _, rfl, ⟨rfl, va, f1, rfl⟩, by rw [ht]; exact hP, hD⟩, hS.F ht⟩) hS.2.2 (show decode (zmB zj_stA) 97 = .ok (.return_, 1) from by decide +kernel) hlocks
set_option maxRecDepth 20000 in
theorem zjt_stB {l : Launch} {kv : (Nat → Nat) × (Nat → Nat)} {D : va_G} {cB : ClassId} {b da st n : Nat} {f : Nat → Int32} (hn : n < 16) (hf : sb_Fit f) : zbMet l zj_stB kv D cB [(b, .inr (0, [.ref da, .int 0, .int 0, .int (nI n)])), (da, .inl (cB, 16, .inl f)), (st, .inr (1, [.null, .int 0, .int 0, .int 0]))] [.ref st, .ref b] 1 16 (fun v w => v = none ∧ ∃ (va : Nat) (f1 : Nat → Int32), w = [(b, .inr (0, [.ref da, .int 0, .int 0, .int (nI n)])), (da, .inl (cB, 16, .inl f)), (st, .inr (1, [.ref va, .int 0, .int 0, .int 0])), (va, .inl (cB, n, .inl f1))]) := by
  refine zb_of (by decide +kernel) rfl (Nat.le_of_ble_eq_true rfl) ?_
  intro p e s m args below meth c A R rls hR X hl hP hD hS
  have hx := X.1
  have hb := X.2.1
  have hown : s.vm.findClass "java/lang/String" = some m.cls := X.2.2.2.1
  have hts := X.2.2.2.2.1
  have hK := X.2.2.2.2.2.1
  have hA := X.2.2.2.2.2.2.1
  have hZ := X.2.2.2.2.2.2.2.1
  have hr : meth.sig.returnType = none := X.2.2.2.2.2.2.2.2.1
  have hlocks := X.2.2.2.2.2.2.2.2.2.1
  have hl : lv_has rls 2 [(0, .ref st), (1, .ref b)] := hl
  refine lv_aload_n hx hb (show decode (zmB zj_stB) 0 = .ok (.aload_n 0, 1) from by decide +kernel) rfl (lv_at hl 0 rfl) ?_
  refine lv_aload_n hx hb (show decode (zmB zj_stB) 1 = .ok (.aload_n 1, 1) from by decide +kernel) rfl (lv_at hl 1 rfl) ?_
  refine lv_null hx hb (show decode (zmB zj_stB) 2 = .ok (.aconst_null, 1) from by decide +kernel) ?_
  refine zb_I (q := zj_stA) X hR (zjt_stA hn hf) ⟨zat_t (by decide +kernel), zat_t (by decide +kernel), zat_t (by decide +kernel), rfl, ⟨by decide +kernel, by decide +kernel⟩, (show (parseMethodDescriptor (zmN zj_stA).desc).map (fun d => d.parameters.length) = some 2 from by decide +kernel), by decide, by decide⟩ (zat_t (by decide +kernel)) rfl rfl (by decide) (by first | decide | exact Nat.le_of_ble_eq_true rfl) (show decode (zmB zj_stB) 3 = .ok (.invokespecial 489, 3) from by decide +kernel) hl.1 hP hD hS rfl ?_
  intro v9 w9 H locs h9 hP hD hS _
  obtain ⟨rfl, va, f1, rfl⟩ := h9
  refine W.widen (k := 1) (n := 16) (by first | decide | omega) (by first | decide | omega) ?_
  exact W.vret hx hb hr (fun t ht _ => ⟨⟨none, _, rfl, ⟨rfl, va, f1, rfl⟩, by rw [ht]; exact hP, hD⟩, hS.F ht⟩) hS.2.2 (show decode (zmB zj_stB) 6 = .ok (.return_, 1) from by decide +kernel) hlocks
set_option maxRecDepth 20000 in
theorem zjt_toS {l : Launch} {kv : (Nat → Nat) × (Nat → Nat)} {D : va_G} {cB : ClassId} {b da n : Nat} {f : Nat → Int32} (hn : n < 16) (hf : sb_Fit f) : zbMet l zj_toS kv D cB (zbd cB b da n f) [.ref b] 2 20 (fun v w => ∃ (st va : Nat) (f1 : Nat → Int32), v = some (.ref st) ∧ w = [(b, .inr (0, [.ref da, .int 0, .int 0, .int (nI n)])), (da, .inl (cB, 16, .inl f)), (st, .inr (1, [.ref va, .int 0, .int 0, .int 0])), (va, .inl (cB, n, .inl f1))]) := by
  refine zb_of (by decide +kernel) rfl (Nat.le_of_ble_eq_true rfl) ?_
  intro p e s m args below meth c A R rls hR X hl hP hD hS
  have hx := X.1
  have hb := X.2.1
  have hown : s.vm.findClass "java/lang/StringBuilder" = some m.cls := X.2.2.2.1
  have hts := X.2.2.2.2.1
  have hK := X.2.2.2.2.2.1
  have hA := X.2.2.2.2.2.2.1
  have hZ := X.2.2.2.2.2.2.2.1
  have hr : meth.sig.returnType = some (.object "java/lang/String") := X.2.2.2.2.2.2.2.2.1
  have hlocks := X.2.2.2.2.2.2.2.2.2.1
  have hl : lv_has rls 1 [(0, .ref b)] := hl
  refine va_new (T := zTS) (N := 4) (ci := 1) hx hb hts zu_S zyS zTS_t hown (hts (Cond.classLink "java/lang/StringBuilder" 18 "java/lang/String") (zat_t (by decide +kernel))) (hts (Cond.instantiable "java/lang/String" 4) (zat_t (by decide +kernel))) (hts (Cond.initialized "java/lang/String") (zat_t (by decide +kernel))) hK hP hD hS hA rfl (fs := [.null, .int 0, .int 0, .int 0]) (fun j hj => match j, hj with | 0, _ => rfl | 1, _ => rfl | 2, _ => rfl | 3, _ => rfl | z + 4, h9 => absurd h9 (by omega)) (by rw [hR]; decide) (by rw [hR]; decide) (show decode (zmB zj_toS) 0 = .ok (.new 18, 3) from by decide +kernel) fun st H1 hP hD hS => ?_
  have hP : va_P D zbC ([(b, .inr (0, [.ref da, .int 0, .int 0, .int (nI n)])), (da, .inl (cB, 16, .inl f)), (st, .inr (1, [.null, .int 0, .int 0, .int 0]))]) _ := hP
  have hD : va_D A ([(b, .inr (0, [.ref da, .int 0, .int 0, .int (nI n)])), (da, .inl (cB, 16, .inl f)), (st, .inr (1, [.null, .int 0, .int 0, .int 0]))]) := hD
  refine lv_dup hx hb (show decode (zmB zj_toS) 3 = .ok (.dup, 1) from by decide +kernel) rfl ?_
  refine lv_aload_n hx hb (show decode (zmB zj_toS) 4 = .ok (.aload_n 0, 1) from by decide +kernel) rfl (lv_at hl 0 rfl) ?_
  refine zb_I (q := zj_stB) X hR (zjt_stB hn hf) ⟨zat_t (by decide +kernel), zat_t (by decide +kernel), zat_t (by decide +kernel), rfl, ⟨by decide +kernel, by decide +kernel⟩, (show (parseMethodDescriptor (zmN zj_stB).desc).map (fun d => d.parameters.length) = some 1 from by decide +kernel), by decide, by decide⟩ (zat_t (by decide +kernel)) rfl rfl (by decide) (by first | decide | exact Nat.le_of_ble_eq_true rfl) (show decode (zmB zj_toS) 5 = .ok (.invokespecial 137, 3) from by decide +kernel) hl.1 hP hD hS rfl ?_
  intro v9 w9 H locs h9 hP hD hS _
  obtain ⟨rfl, va, f1, rfl⟩ := h9
  refine W.widen (k := 2) (n := 20) (by first | decide | omega) (by first | decide | omega) ?_
  exact W.aret hx hb hr (by first | exact Or.inl ⟨_, rfl⟩ | exact Or.inr ⟨_, rfl⟩) (Or.inr ⟨_, rfl⟩) (fun t ht _ => ⟨⟨some (.ref st), _, rfl, ⟨st, va, f1, rfl, rfl⟩, by rw [ht]; exact hP, hD⟩, hS.F ht⟩) hS.2.2 (show decode (zmB zj_toS) 8 = .ok (.areturn, 1) from by decide +kernel) hlocks
set_option maxRecDepth 20000 in
theorem zjt_cod {l : Launch} {kv : (Nat → Nat) × (Nat → Nat)} {D : va_G} {cB : ClassId} {st va n : Nat} {f : Nat → Int32} : zbMet l zj_cod kv D cB [(st, .inr (1, [.ref va, .int 0, .int 0, .int 0])), (va, .inl (cB, n, .inl f))] [.ref st] 0 0 (fun v w => v = some (.int 0) ∧ w = [(st, .inr (1, [.ref va, .int 0, .int 0, .int 0])), (va, .inl (cB, n, .inl f))]) := by
  refine zb_of (by decide +kernel) rfl (Nat.le_of_ble_eq_true rfl) ?_
  intro p e s m args below meth c A R rls hR X hl hP hD hS
  have hx := X.1
  have hb := X.2.1
  have hown : s.vm.findClass "java/lang/String" = some m.cls := X.2.2.2.1
  have hts := X.2.2.2.2.1
  have hK := X.2.2.2.2.2.1
  have hA := X.2.2.2.2.2.2.1
  have hZ := X.2.2.2.2.2.2.2.1
  have hr : meth.sig.returnType = some .byte := X.2.2.2.2.2.2.2.2.1
  have hlocks := X.2.2.2.2.2.2.2.2.2.1
  have hl : lv_has rls 1 [(0, .ref st)] := hl
  refine va_gets hx hb hZ.1 hS hown (hts (Cond.fieldLink "java/lang/String" 38 "java/lang/String" "COMPACT_STRINGS" "Z") (zat_t (by decide +kernel))) (fun _ h => h) (show decode (zmB zj_cod) 0 = .ok (.getstatic 38, 3) from by decide +kernel) ?_
  refine lv_if_eq hx hb (show decode (zmB zj_cod) 3 = .ok (.ifCond .eq 10, 3) from by decide +kernel) (tgt := 13) (by decide) (fun z => absurd z (by decide)) (fun _ => ?_)
  refine lv_aload_n hx hb (show decode (zmB zj_cod) 6 = .ok (.aload_n 0, 1) from by decide +kernel) rfl (lv_at hl 0 rfl) ?_
  refine va_get (ref := "java/lang/String") hx hb hts zu_S hown hK hP 0 rfl rfl 1 (by decide) (hts (Cond.fieldLink "java/lang/String" 15 "java/lang/String" "coder" "B") (zat_t (by decide +kernel))) (fun _ h => h) rfl (show decode (zmB zj_cod) 7 = .ok (.getfield 15, 3) from by decide +kernel) ?_
  refine lv_goto hx hb (show decode (zmB zj_cod) 10 = .ok (.goto 4, 3) from by decide +kernel) (tgt := 14) (by decide) ?_
  refine W.widen (k := 0) (n := 0) (by first | decide | omega) (by first | decide | omega) ?_
  exact W.zret hx hb hr (by first | rfl | decide +kernel) (fun t ht _ => ⟨⟨some (.int 0), _, rfl, ⟨rfl, rfl⟩, by rw [ht]; exact hP, hD⟩, hS.F ht⟩) hS.2.2 (show decode (zmB zj_cod) 14 = .ok (.ireturn, 1) from by decide +kernel) hlocks
set_option maxRecDepth 20000 in
theorem zjt_sLen {l : Launch} {kv : (Nat → Nat) × (Nat → Nat)} {D : va_G} {cB : ClassId} {st va n : Nat} {f : Nat → Int32} (hn : n < 16) : zbMet l zj_sLen kv D cB [(st, .inr (1, [.ref va, .int 0, .int 0, .int 0])), (va, .inl (cB, n, .inl f))] [.ref st] 0 0 (fun v w => v = some (.int (nI n)) ∧ w = [(st, .inr (1, [.ref va, .int 0, .int 0, .int 0])), (va, .inl (cB, n, .inl f))]) := by
  refine zb_of (by decide +kernel) rfl (Nat.le_of_ble_eq_true rfl) ?_
  intro p e s m args below meth c A R rls hR X hl hP hD hS
  have hx := X.1
  have hb := X.2.1
  have hown : s.vm.findClass "java/lang/String" = some m.cls := X.2.2.2.1
  have hts := X.2.2.2.2.1
  have hK := X.2.2.2.2.2.1
  have hA := X.2.2.2.2.2.2.1
  have hZ := X.2.2.2.2.2.2.2.1
  have hr : meth.sig.returnType = some .int := X.2.2.2.2.2.2.2.2.1
  have hlocks := X.2.2.2.2.2.2.2.2.2.1
  have hl : lv_has rls 1 [(0, .ref st)] := hl
  have hsC : (Cond.selects "java/lang/String" (zmN zj_cod) (zmN zj_cod)).before args s = true := hts _ (zat_t (by decide +kernel))
  refine lv_aload_n hx hb (show decode (zmB zj_sLen) 0 = .ok (.aload_n 0, 1) from by decide +kernel) rfl (lv_at hl 0 rfl) ?_
  refine va_get (ref := "java/lang/String") hx hb hts zu_S hown hK hP 0 rfl rfl 0 (by decide) (hts (Cond.fieldLink "java/lang/String" 9 "java/lang/String" "value" "[B") (zat_t (by decide +kernel))) (fun _ h => h) rfl (show decode (zmB zj_sLen) 1 = .ok (.getfield 9, 3) from by decide +kernel) ?_
  refine va_alen hx hb hK hP 1 0 rfl rfl (v := nI n) rfl (show decode (zmB zj_sLen) 4 = .ok (.arraylength, 1) from by decide +kernel) ?_
  refine lv_aload_n hx hb (show decode (zmB zj_sLen) 5 = .ok (.aload_n 0, 1) from by decide +kernel) rfl (lv_at hl 0 rfl) ?_
  refine zb_V (q := zj_cod) X hR (zjt_cod) ⟨zat_t (by decide +kernel), zat_t (by decide +kernel), zat_t (by decide +kernel), rfl, ⟨by decide +kernel, by decide +kernel⟩, (show (parseMethodDescriptor (zmN zj_cod).desc).map (fun d => d.parameters.length) = some 0 from by decide +kernel), by decide, by decide⟩ (zat_t (by decide +kernel)) hsC 0 rfl rfl (by decide) (by first | decide | exact Nat.le_of_ble_eq_true rfl) (show decode (zmB zj_sLen) 6 = .ok (.invokevirtual 335, 3) from by decide +kernel) hl.1 hP hD hS rfl ?_
  intro v9 w9 H locs h9 hP hD hS _
  obtain ⟨rfl, rfl⟩ := h9
  refine lv_ishr hx hb (show decode (zmB zj_sLen) 9 = .ok (.ishr, 1) from by decide +kernel) ?_
  refine lv_topi (fun y ey => ?_)
  obtain rfl : y = nI n := ey.trans (zb_shr n (by omega))
  refine W.widen (k := 0) (n := 0) (by first | decide | omega) (by first | decide | omega) ?_
  exact W.zret hx hb hr (by first | rfl | decide +kernel) (fun t ht _ => ⟨⟨some (.int (nI n)), _, rfl, ⟨rfl, rfl⟩, by rw [ht]; exact hP, hD⟩, hS.F ht⟩) hS.2.2 (show decode (zmB zj_sLen) 10 = .ok (.ireturn, 1) from by decide +kernel) hlocks
