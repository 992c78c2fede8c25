/-! the JDK's texts: the signs' constant (printed by wip/p39/jd.py) -/
def zj_isLs : zM := (⟨"java/lang/String", "isLatin1", "()Z"⟩, prog_27_method_154_code, 1, some .boolean, [], [], 0, 0)
def zj_chkP : zM := (⟨"jdk/internal/util/Preconditions", "checkIndex", "(IILjava/util/function/BiFunction;)I"⟩, prog_35_method_11_code, 3, some .int, [], [], 0, 0)
def zj_chkS : zM := (⟨"java/lang/String", "checkIndex", "(II)V"⟩, prog_27_method_155_code, 2, none, [], [], 1, 22)
def zj_chL : zM := (⟨"java/lang/StringLatin1", "charAt", "([BI)C"⟩, prog_29_method_2_code, 2, some .char, [], [], 2, 43)
def zj_chS : zM := (⟨"java/lang/String", "charAt", "(I)C"⟩, prog_27_method_56_code, 2, some .char, [], [], 3, 64)
def zch (c : Nat) : Prop := c < 256 ∧ narrow .char (.int (nI c)) = .int (nI c)
abbrev zsg : List Int32 := [46, 35, 126, 84, 99, 61, 47, 117]
theorem zsg_at {k : Nat} (hk : k < 8) : ∃ c : Nat, zch c ∧ (zsg.getD k 0 &&& 255) = nI c ∧ ((nI c).toUInt32 % 65536).toInt32 = nI c :=
  match k, hk with
  | 0, _ => ⟨46, ⟨by decide, by decide +kernel⟩, by decide +kernel, by decide +kernel⟩
  | 1, _ => ⟨35, ⟨by decide, by decide +kernel⟩, by decide +kernel, by decide +kernel⟩
  | 2, _ => ⟨126, ⟨by decide, by decide +kernel⟩, by decide +kernel, by decide +kernel⟩
  | 3, _ => ⟨84, ⟨by decide, by decide +kernel⟩, by decide +kernel, by decide +kernel⟩
  | 4, _ => ⟨99, ⟨by decide, by decide +kernel⟩, by decide +kernel, by decide +kernel⟩
  | 5, _ => ⟨61, ⟨by decide, by decide +kernel⟩, by decide +kernel, by decide +kernel⟩
  | 6, _ => ⟨47, ⟨by decide, by decide +kernel⟩, by decide +kernel, by decide +kernel⟩
  | 7, _ => ⟨117, ⟨by decide, by decide +kernel⟩, by decide +kernel, by decide +kernel⟩
  | n + 8, h9 => absurd h9 (by omega)
set_option maxRecDepth 20000 in
theorem zjt_codK {l : Launch} {kv : (Nat → Nat) × (Nat → Nat)} {D : va_G} {cB : ClassId} {w0 : va_W} : zbMet l zj_cod kv D cB w0 [.ref (kv.1 0)] 0 0 (fun v w => v = some (.int 0) ∧ w = w0) := by
  refine zb_of (by decide +kernel) rfl (Nat.le_of_ble_eq_true rfl) ?_
  intro p e s m args below meth c A R rls hR X hl hP hD hS
  have hx := X.1
  have hb := X.2.1
  have hown : s.vm.findClass "java/lang/String" = some m.cls := X.2.2.2.1
  have hts := X.2.2.2.2.1
  have hK := X.2.2.2.2.2.1
  have hA := X.2.2.2.2.2.2.1
  have hZ := X.2.2.2.2.2.2.2.1
  have hr : meth.sig.returnType = some .byte := X.2.2.2.2.2.2.2.2.1
  have hlocks := X.2.2.2.2.2.2.2.2.2.1
  have hl : lv_has rls 1 [(0, .ref (kv.1 0))] := hl
  refine va_gets hx hb hZ.1 hS hown (hts (Cond.fieldLink "java/lang/String" 38 "java/lang/String" "COMPACT_STRINGS" "Z") (zat_t (by decide +kernel))) (fun _ h => h) (show decode (zmB zj_cod) 0 = .ok (.getstatic 38, 3) from by decide +kernel) ?_
  refine lv_if_eq hx hb (show decode (zmB zj_cod) 3 = .ok (.ifCond .eq 10, 3) from by decide +kernel) (tgt := 13) (by decide) (fun z => absurd z (by decide)) (fun _ => ?_)
  refine lv_aload_n hx hb (show decode (zmB zj_cod) 6 = .ok (.aload_n 0, 1) from by decide +kernel) rfl (lv_at hl 0 rfl) ?_
  refine vk_getf (ref := "java/lang/String") hx hb (hZ.2.2.1.1 0 (by decide)).2.1 hS hown (hts (Cond.fieldLink "java/lang/String" 15 "java/lang/String" "coder" "B") (zat_t (by decide +kernel))) (fun _ h => h) (show decode (zmB zj_cod) 7 = .ok (.getfield 15, 3) from by decide +kernel) ?_
  refine lv_goto hx hb (show decode (zmB zj_cod) 10 = .ok (.goto 4, 3) from by decide +kernel) (tgt := 14) (by decide) ?_
  refine W.widen (k := 0) (n := 0) (by first | decide | omega) (by first | decide | omega) ?_
  exact W.zret hx hb hr (by first | rfl | decide +kernel) (fun t ht _ => ⟨⟨some (.int 0), _, rfl, ⟨rfl, rfl⟩, by rw [ht]; exact hP, hD⟩, hS.F ht⟩) hS.2.2 (show decode (zmB zj_cod) 14 = .ok (.ireturn, 1) from by decide +kernel) hlocks
set_option maxRecDepth 20000 in
theorem zjt_lenK {l : Launch} {kv : (Nat → Nat) × (Nat → Nat)} {D : va_G} {cB : ClassId} {w0 : va_W} : zbMet l zj_sLen kv D cB w0 [.ref (kv.1 0)] 0 0 (fun v w => v = some (.int (nI 8)) ∧ w = w0) := by
  refine zb_of (by decide +kernel) rfl (Nat.le_of_ble_eq_true rfl) ?_
  intro p e s m args below meth c A R rls hR X hl hP hD hS
  have hx := X.1
  have hb := X.2.1
  have hown : s.vm.findClass "java/lang/String" = some m.cls := X.2.2.2.1
  have hts := X.2.2.2.2.1
  have hK := X.2.2.2.2.2.1
  have hA := X.2.2.2.2.2.2.1
  have hZ := X.2.2.2.2.2.2.2.1
  have hr : meth.sig.returnType = some .int := X.2.2.2.2.2.2.2.2.1
  have hlocks := X.2.2.2.2.2.2.2.2.2.1
  have hl : lv_has rls 1 [(0, .ref (kv.1 0))] := hl
  have hsC : (Cond.selects "java/lang/String" (zmN zj_cod) (zmN zj_cod)).before args s = true := hts _ (zat_t (by decide +kernel))
  refine lv_aload_n hx hb (show decode (zmB zj_sLen) 0 = .ok (.aload_n 0, 1) from by decide +kernel) rfl (lv_at hl 0 rfl) ?_
  refine vk_getf (ref := "java/lang/String") hx hb (hZ.2.2.1.1 0 (by decide)).2.2.1 hS hown (hts (Cond.fieldLink "java/lang/String" 9 "java/lang/String" "value" "[B") (zat_t (by decide +kernel))) (fun _ h => h) (show decode (zmB zj_sLen) 1 = .ok (.getfield 9, 3) from by decide +kernel) ?_
  refine va_tlen hx hb (hZ.2.2.1.1 0 (by decide)).2.2.2 hS (v := nI 8) rfl (show decode (zmB zj_sLen) 4 = .ok (.arraylength, 1) from by decide +kernel) ?_
  refine lv_aload_n hx hb (show decode (zmB zj_sLen) 5 = .ok (.aload_n 0, 1) from by decide +kernel) rfl (lv_at hl 0 rfl) ?_
  refine zb_V0 (q := zj_cod) X hR (zjt_codK) ⟨zat_t (by decide +kernel), zat_t (by decide +kernel), zat_t (by decide +kernel), rfl, ⟨by decide +kernel, by decide +kernel⟩, (show (parseMethodDescriptor (zmN zj_cod).desc).map (fun d => d.parameters.length) = some 0 from by decide +kernel), by decide, by decide⟩ (zat_t (by decide +kernel)) hsC (vk_recv hZ.2.2.1 Nat.zero_lt_one hS) (by decide) (by first | decide | exact Nat.le_of_ble_eq_true rfl) (show decode (zmB zj_sLen) 6 = .ok (.invokevirtual 335, 3) from by decide +kernel) hl.1 hP hD hS rfl ?_
  intro v9 w9 H locs h9 hP hD hS _
  obtain ⟨rfl, e9⟩ := h9
  rw [e9] at hP hD
  refine lv_ishr hx hb (show decode (zmB zj_sLen) 9 = .ok (.ishr, 1) from by decide +kernel) ?_
  refine lv_topi (fun y ey => ?_)
  obtain rfl : y = nI 8 := ey.trans (zb_shr 8 (by decide))
  refine W.widen (k := 0) (n := 0) (by first | decide | omega) (by first | decide | omega) ?_
  exact W.zret hx hb hr (by first | rfl | decide +kernel) (fun t ht _ => ⟨⟨some (.int (nI 8)), _, rfl, ⟨rfl, rfl⟩, by rw [ht]; exact hP, hD⟩, hS.F ht⟩) hS.2.2 (show decode (zmB zj_sLen) 10 = .ok (.ireturn, 1) from by decide +kernel) hlocks
set_option maxRecDepth 20000 in
theorem zjt_isLs {l : Launch} {kv : (Nat → Nat) × (Nat → Nat)} {D : va_G} {cB : ClassId} {w0 : va_W} : zbMet l zj_isLs kv D cB w0 [.ref (kv.1 0)] 0 0 (fun v w => v = some (.int 1) ∧ w = w0) := by
  refine zb_of (by decide +kernel) rfl (Nat.le_of_ble_eq_true rfl) ?_
  intro p e s m args below meth c A R rls hR X hl hP hD hS
  have hx := X.1
  have hb := X.2.1
  have hown : s.vm.findClass "java/lang/String" = some m.cls := X.2.2.2.1
  have hts := X.2.2.2.2.1
  have hK := X.2.2.2.2.2.1
  have hA := X.2.2.2.2.2.2.1
  have hZ := X.2.2.2.2.2.2.2.1
  have hr : meth.sig.returnType = some .boolean := X.2.2.2.2.2.2.2.2.1
  have hlocks := X.2.2.2.2.2.2.2.2.2.1
  have hl : lv_has rls 1 [(0, .ref (kv.1 0))] := hl
  refine va_gets hx hb hZ.1 hS hown (hts (Cond.fieldLink "java/lang/String" 38 "java/lang/String" "COMPACT_STRINGS" "Z") (zat_t (by decide +kernel))) (fun _ h => h) (show decode (zmB zj_isLs) 0 = .ok (.getstatic 38, 3) from by decide +kernel) ?_
  refine lv_if_eq hx hb (show decode (zmB zj_isLs) 3 = .ok (.ifCond .eq 14, 3) from by decide +kernel) (tgt := 17) (by decide) (fun z => absurd z (by decide)) (fun _ => ?_)
  refine lv_aload_n hx hb (show decode (zmB zj_isLs) 6 = .ok (.aload_n 0, 1) from by decide +kernel) rfl (lv_at hl 0 rfl) ?_
  refine vk_getf (ref := "java/lang/String") hx hb (hZ.2.2.1.1 0 (by decide)).2.1 hS hown (hts (Cond.fieldLink "java/lang/String" 15 "java/lang/String" "coder" "B") (zat_t (by decide +kernel))) (fun _ h => h) (show decode (zmB zj_isLs) 7 = .ok (.getfield 15, 3) from by decide +kernel) ?_
  refine lv_if_ne hx hb (show decode (zmB zj_isLs) 10 = .ok (.ifCond .ne 7, 3) from by decide +kernel) (tgt := 17) (by decide) (fun z => absurd z (fun h => h rfl)) (fun _ => ?_)
  refine lv_iconst (v := 1) hx hb (show decode (zmB zj_isLs) 13 = .ok (.iconst 1, 1) from by decide +kernel) (by decide +kernel) ?_
  refine lv_goto hx hb (show decode (zmB zj_isLs) 14 = .ok (.goto 4, 3) from by decide +kernel) (tgt := 18) (by decide) ?_
  refine W.widen (k := 0) (n := 0) (by first | decide | omega) (by first | decide | omega) ?_
  exact W.zret hx hb hr (by first | rfl | decide +kernel) (fun t ht _ => ⟨⟨some (.int 1), _, rfl, ⟨rfl, rfl⟩, by rw [ht]; exact hP, hD⟩, hS.F ht⟩) hS.2.2 (show decode (zmB zj_isLs) 18 = .ok (.ireturn, 1) from by decide +kernel) hlocks
set_option maxRecDepth 20000 in
theorem zjt_chkP0 {l : Launch} {kv : (Nat → Nat) × (Nat → Nat)} {D : va_G} {cB : ClassId} {w0 : va_W} {k : Nat} (hk : k < 8) : zbMet l zj_chkP kv D cB w0 [.int (nI k), .int (nI 8), .null] 0 0 (fun v w => v = some (.int (nI k)) ∧ w = w0) := by
  refine zb_of (by decide +kernel) rfl (Nat.le_of_ble_eq_true rfl) ?_
  intro p e s m args below meth c A R rls hR X hl hP hD hS
  have hx := X.1
  have hb := X.2.1
  have hown : s.vm.findClass "jdk/internal/util/Preconditions" = some m.cls := X.2.2.2.1
  have hts := X.2.2.2.2.1
  have hK := X.2.2.2.2.2.1
  have hA := X.2.2.2.2.2.2.1
  have hZ := X.2.2.2.2.2.2.2.1
  have hr : meth.sig.returnType = some .int := X.2.2.2.2.2.2.2.2.1
  have hlocks := X.2.2.2.2.2.2.2.2.2.1
  have hl : lv_has rls 3 [(0, .int (nI k)), (1, .int (nI 8)), (2, .null)] := hl
  refine lv_iload_n hx hb (show decode (zmB zj_chkP) 0 = .ok (.iload_n 0, 1) from by decide +kernel) rfl (lv_at hl 0 rfl) ?_
  refine lv_if_lt hx hb (show decode (zmB zj_chkP) 1 = .ok (.ifCond .lt 8, 3) from by decide +kernel) (tgt := 9) (by decide) (fun z => absurd z (nI_pos (by omega))) (fun _ => ?_)
  refine lv_iload_n hx hb (show decode (zmB zj_chkP) 4 = .ok (.iload_n 0, 1) from by decide +kernel) rfl (lv_at hl 0 rfl) ?_
  refine lv_iload_n hx hb (show decode (zmB zj_chkP) 5 = .ok (.iload_n 1, 1) from by decide +kernel) rfl (lv_at hl 1 rfl) ?_
  refine lv_icmp_lt hx hb (show decode (zmB zj_chkP) 6 = .ok (.if_icmp .lt 10, 3) from by decide +kernel) (tgt := 16) (by decide) (fun _ => ?_) (fun z => absurd (nI_lt hk (by decide)) z)
  refine lv_iload_n hx hb (show decode (zmB zj_chkP) 16 = .ok (.iload_n 0, 1) from by decide +kernel) rfl (lv_at hl 0 rfl) ?_
  refine W.widen (k := 0) (n := 0) (by first | decide | omega) (by first | decide | omega) ?_
  exact W.zret hx hb hr (by first | rfl | decide +kernel) (fun t ht _ => ⟨⟨some (.int (nI k)), _, rfl, ⟨rfl, rfl⟩, by rw [ht]; exact hP, hD⟩, hS.F ht⟩) hS.2.2 (show decode (zmB zj_chkP) 17 = .ok (.ireturn, 1) from by decide +kernel) hlocks
set_option maxRecDepth 20000 in
theorem zjt_chkP1 {l : Launch} {kv : (Nat → Nat) × (Nat → Nat)} {D : va_G} {cB : ClassId} {w0 : va_W} {k : Nat} {t : Nat} (hk : k < 8) : zbMet l zj_chkP kv D cB w0 [.int (nI k), .int (nI 8), .ref t] 0 0 (fun v w => v = some (.int (nI k)) ∧ w = w0) := by
  refine zb_of (by decide +kernel) rfl (Nat.le_of_ble_eq_true rfl) ?_
  intro p e s m args below meth c A R rls hR X hl hP hD hS
  have hx := X.1
  have hb := X.2.1
  have hown : s.vm.findClass "jdk/internal/util/Preconditions" = some m.cls := X.2.2.2.1
  have hts := X.2.2.2.2.1
  have hK := X.2.2.2.2.2.1
  have hA := X.2.2.2.2.2.2.1
  have hZ := X.2.2.2.2.2.2.2.1
  have hr : meth.sig.returnType = some .int := X.2.2.2.2.2.2.2.2.1
  have hlocks := X.2.2.2.2.2.2.2.2.2.1
  have hl : lv_has rls 3 [(0, .int (nI k)), (1, .int (nI 8)), (2, .ref t)] := hl
  refine lv_iload_n hx hb (show decode (zmB zj_chkP) 0 = .ok (.iload_n 0, 1) from by decide +kernel) rfl (lv_at hl 0 rfl) ?_
  refine lv_if_lt hx hb (show decode (zmB zj_chkP) 1 = .ok (.ifCond .lt 8, 3) from by decide +kernel) (tgt := 9) (by decide) (fun z => absurd z (nI_pos (by omega))) (fun _ => ?_)
  refine lv_iload_n hx hb (show decode (zmB zj_chkP) 4 = .ok (.iload_n 0, 1) from by decide +kernel) rfl (lv_at hl 0 rfl) ?_
  refine lv_iload_n hx hb (show decode (zmB zj_chkP) 5 = .ok (.iload_n 1, 1) from by decide +kernel) rfl (lv_at hl 1 rfl) ?_
  refine lv_icmp_lt hx hb (show decode (zmB zj_chkP) 6 = .ok (.if_icmp .lt 10, 3) from by decide +kernel) (tgt := 16) (by decide) (fun _ => ?_) (fun z => absurd (nI_lt hk (by decide)) z)
  refine lv_iload_n hx hb (show decode (zmB zj_chkP) 16 = .ok (.iload_n 0, 1) from by decide +kernel) rfl (lv_at hl 0 rfl) ?_
  refine W.widen (k := 0) (n := 0) (by first | decide | omega) (by first | decide | omega) ?_
  exact W.zret hx hb hr (by first | rfl | decide +kernel) (fun t ht _ => ⟨⟨some (.int (nI k)), _, rfl, ⟨rfl, rfl⟩, by rw [ht]; exact hP, hD⟩, hS.F ht⟩) hS.2.2 (show decode (zmB zj_chkP) 17 = .ok (.ireturn, 1) from by decide +kernel) hlocks
set_option maxRecDepth 20000 in
theorem zjt_chkS {l : Launch} {kv : (Nat → Nat) × (Nat → Nat)} {D : va_G} {cB : ClassId} {w0 : va_W} {k : Nat} (hk : k < 8) : zbMet l zj_chkS kv D cB w0 [.int (nI k), .int (nI 8)] 0 0 (fun v w => v = none ∧ w = w0) := by
  refine zb_of (by decide +kernel) rfl (Nat.le_of_ble_eq_true rfl) ?_
  intro p e s m args below meth c A R rls hR X hl hP hD hS
  have hx := X.1
  have hb := X.2.1
  have hown : s.vm.findClass "java/lang/String" = some m.cls := X.2.2.2.1
  have hts := X.2.2.2.2.1
  have hK := X.2.2.2.2.2.1
  have hA := X.2.2.2.2.2.2.1
  have hZ := X.2.2.2.2.2.2.2.1
  have hr : meth.sig.returnType = none := X.2.2.2.2.2.2.2.2.1
  have hlocks := X.2.2.2.2.2.2.2.2.2.1
  have hl : lv_has rls 2 [(0, .int (nI k)), (1, .int (nI 8))] := hl
  refine lv_iload_n hx hb (show decode (zmB zj_chkS) 0 = .ok (.iload_n 0, 1) from by decide +kernel) rfl (lv_at hl 0 rfl) ?_
  refine lv_iload_n hx hb (show decode (zmB zj_chkS) 1 = .ok (.iload_n 1, 1) from by decide +kernel) rfl (lv_at hl 1 rfl) ?_
  rcases hZ.2.1 with z9 | ⟨t9, z9⟩
  · skip
    refine va_gets hx hb z9 hS hown (hts (Cond.fieldLink "java/lang/String" 1053 "jdk/internal/util/Preconditions" "SIOOBE_FORMATTER" "Ljava/util/function/BiFunction;") (zat_t (by decide +kernel))) (fun _ h => h) (show decode (zmB zj_chkS) 2 = .ok (.getstatic 1053, 3) from by decide +kernel) ?_
    refine zb_S (q := zj_chkP) X hR (zjt_chkP0 hk) ⟨zat_t (by decide +kernel), zat_t (by decide +kernel), zat_t (by decide +kernel), rfl, ⟨by decide +kernel, by decide +kernel⟩, (show (parseMethodDescriptor (zmN zj_chkP).desc).map (fun d => d.parameters.length) = some 3 from by decide +kernel), by decide, by decide⟩ (zat_t (by decide +kernel)) (by decide) (by first | decide | exact Nat.le_of_ble_eq_true rfl) (show decode (zmB zj_chkS) 5 = .ok (.invokestatic 1059, 3) from by decide +kernel) hl.1 hP hD hS rfl ?_
    intro v9 w9 H locs h9 hP hD hS _
    obtain ⟨rfl, e9⟩ := h9
    rw [e9] at hP hD
    refine lv_pop hx hb (show decode (zmB zj_chkS) 8 = .ok (.pop, 1) from by decide +kernel) rfl ?_
    refine W.widen (k := 0) (n := 0) (by first | decide | omega) (by first | decide | omega) ?_
    exact W.vret hx hb hr (fun t ht _ => ⟨⟨none, _, rfl, ⟨rfl, rfl⟩, by rw [ht]; exact hP, hD⟩, hS.F ht⟩) hS.2.2 (show decode (zmB zj_chkS) 9 = .ok (.return_, 1) from by decide +kernel) hlocks
  · skip
    refine va_gets hx hb z9 hS hown (hts (Cond.fieldLink "java/lang/String" 1053 "jdk/internal/util/Preconditions" "SIOOBE_FORMATTER" "Ljava/util/function/BiFunction;") (zat_t (by decide +kernel))) (fun _ h => h) (show decode (zmB zj_chkS) 2 = .ok (.getstatic 1053, 3) from by decide +kernel) ?_
    refine zb_S (q := zj_chkP) X hR (zjt_chkP1 hk) ⟨zat_t (by decide +kernel), zat_t (by decide +kernel), zat_t (by decide +kernel), rfl, ⟨by decide +kernel, by decide +kernel⟩, (show (parseMethodDescriptor (zmN zj_chkP).desc).map (fun d => d.parameters.length) = some 3 from by decide +kernel), by decide, by decide⟩ (zat_t (by decide +kernel)) (by decide) (by first | decide | exact Nat.le_of_ble_eq_true rfl) (show decode (zmB zj_chkS) 5 = .ok (.invokestatic 1059, 3) from by decide +kernel) hl.1 hP hD hS rfl ?_
    intro v9 w9 H locs h9 hP hD hS _
    obtain ⟨rfl, e9⟩ := h9
    rw [e9] at hP hD
    refine lv_pop hx hb (show decode (zmB zj_chkS) 8 = .ok (.pop, 1) from by decide +kernel) rfl ?_
    refine W.widen (k := 0) (n := 0) (by first | decide | omega) (by first | decide | omega) ?_
    exact W.vret hx hb hr (fun t ht _ => ⟨⟨none, _, rfl, ⟨rfl, rfl⟩, by rw [ht]; exact hP, hD⟩, hS.F ht⟩) hS.2.2 (show decode (zmB zj_chkS) 9 = .ok (.return_, 1) from by decide +kernel) hlocks
set_option maxRecDepth 20000 in
theorem zjt_chL {l : Launch} {kv : (Nat → Nat) × (Nat → Nat)} {D : va_G} {cB : ClassId} {w0 : va_W} {k ch : Nat} (hk : k < 8) (k1 : zch ch) (k2 : (zsg.getD k 0 &&& 255) = nI ch) (k3 : ((nI ch).toUInt32 % 65536).toInt32 = nI ch) : zbMet l zj_chL kv D cB w0 [.ref (kv.2 0), .int (nI k)] 0 0 (fun v w => v = some (.int (nI ch)) ∧ w = w0) := by
  refine zb_of (by decide +kernel) rfl (Nat.le_of_ble_eq_true rfl) ?_
  intro p e s m args below meth c A R rls hR X hl hP hD hS
  have hx := X.1
  have hb := X.2.1
  have hown : s.vm.findClass "java/lang/StringLatin1" = some m.cls := X.2.2.2.1
  have hts := X.2.2.2.2.1
  have hK := X.2.2.2.2.2.1
  have hA := X.2.2.2.2.2.2.1
  have hZ := X.2.2.2.2.2.2.2.1
  have hr : meth.sig.returnType = some .char := X.2.2.2.2.2.2.2.2.1
  have hlocks := X.2.2.2.2.2.2.2.2.2.1
  have hl : lv_has rls 2 [(0, .ref (kv.2 0)), (1, .int (nI k))] := hl
  refine lv_iload_n hx hb (show decode (zmB zj_chL) 0 = .ok (.iload_n 1, 1) from by decide +kernel) rfl (lv_at hl 1 rfl) ?_
  refine lv_aload_n hx hb (show decode (zmB zj_chL) 1 = .ok (.aload_n 0, 1) from by decide +kernel) rfl (lv_at hl 0 rfl) ?_
  refine va_tlen hx hb (hZ.2.2.1.1 0 (by decide)).2.2.2 hS (v := nI 8) rfl (show decode (zmB zj_chL) 2 = .ok (.arraylength, 1) from by decide +kernel) ?_
  refine zb_S (q := zj_chkS) X hR (zjt_chkS hk) ⟨zat_t (by decide +kernel), zat_t (by decide +kernel), zat_t (by decide +kernel), rfl, ⟨by decide +kernel, by decide +kernel⟩, (show (parseMethodDescriptor (zmN zj_chkS).desc).map (fun d => d.parameters.length) = some 2 from by decide +kernel), by decide, by decide⟩ (zat_t (by decide +kernel)) (by decide) (by first | decide | exact Nat.le_of_ble_eq_true rfl) (show decode (zmB zj_chL) 3 = .ok (.invokestatic 9, 3) from by decide +kernel) hl.1 hP hD hS rfl ?_
  intro v9 w9 H locs h9 hP hD hS _
  obtain ⟨rfl, e9⟩ := h9
  rw [e9] at hP hD
  refine lv_aload_n hx hb (show decode (zmB zj_chL) 6 = .ok (.aload_n 0, 1) from by decide +kernel) rfl (lv_at hl 0 rfl) ?_
  refine lv_iload_n hx hb (show decode (zmB zj_chL) 7 = .ok (.iload_n 1, 1) from by decide +kernel) rfl (lv_at hl 1 rfl) ?_
  refine va_tb hx hb (hZ.2.2.1.1 0 (by decide)).2.2.2 hS (vp_in_nI hk (by decide)) (v := .int (zsg.getD k 0)) (by rw [nI_clamp (by omega)]; rfl) (show decode (zmB zj_chL) 8 = .ok (.baload, 1) from by decide +kernel) ?_
  refine lv_sipush (v := 255) hx hb (show decode (zmB zj_chL) 9 = .ok (.sipush 255, 3) from by decide +kernel) (by decide +kernel) ?_
  refine lv_iand hx hb (show decode (zmB zj_chL) 12 = .ok (.iand, 1) from by decide +kernel) ?_
  refine lv_topi (fun y ey => ?_)
  obtain rfl : y = nI ch := ey.trans k2
  refine lv_i2c (v := nI ch) hx hb (show decode (zmB zj_chL) 13 = .ok (.i2c, 1) from by decide +kernel) k3 ?_
  refine W.widen (k := 0) (n := 0) (by first | decide | omega) (by first | decide | omega) ?_
  exact W.zret hx hb hr k1.2 (fun t ht _ => ⟨⟨some (.int (nI ch)), _, rfl, ⟨rfl, rfl⟩, by rw [ht]; exact hP, hD⟩, hS.F ht⟩) hS.2.2 (show decode (zmB zj_chL) 14 = .ok (.ireturn, 1) from by decide +kernel) hlocks
set_option maxRecDepth 20000 in
theorem zjt_chS {l : Launch} {kv : (Nat → Nat) × (Nat → Nat)} {D : va_G} {cB : ClassId} {w0 : va_W} {k ch : Nat} (hk : k < 8) (k1 : zch ch) (k2 : (zsg.getD k 0 &&& 255) = nI ch) (k3 : ((nI ch).toUInt32 % 65536).toInt32 = nI ch) : zbMet l zj_chS kv D cB w0 [.ref (kv.1 0), .int (nI k)] 0 0 (fun v w => v = some (.int (nI ch)) ∧ w = w0) := by
  refine zb_of (by decide +kernel) rfl (Nat.le_of_ble_eq_true rfl) ?_
  intro p e s m args below meth c A R rls hR X hl hP hD hS
  have hx := X.1
  have hb := X.2.1
  have hown : s.vm.findClass "java/lang/String" = some m.cls := X.2.2.2.1
  have hts := X.2.2.2.2.1
  have hK := X.2.2.2.2.2.1
  have hA := X.2.2.2.2.2.2.1
  have hZ := X.2.2.2.2.2.2.2.1
  have hr : meth.sig.returnType = some .char := X.2.2.2.2.2.2.2.2.1
  have hlocks := X.2.2.2.2.2.2.2.2.2.1
  have hl : lv_has rls 2 [(0, .ref (kv.1 0)), (1, .int (nI k))] := hl
  have hsC : (Cond.selects "java/lang/String" (zmN zj_isLs) (zmN zj_isLs)).before args s = true := hts _ (zat_t (by decide +kernel))
  refine lv_aload_n hx hb (show decode (zmB zj_chS) 0 = .ok (.aload_n 0, 1) from by decide +kernel) rfl (lv_at hl 0 rfl) ?_
  refine zb_V0 (q := zj_isLs) X hR (zjt_isLs) ⟨zat_t (by decide +kernel), zat_t (by decide +kernel), zat_t (by decide +kernel), rfl, ⟨by decide +kernel, by decide +kernel⟩, (show (parseMethodDescriptor (zmN zj_isLs).desc).map (fun d => d.parameters.length) = some 0 from by decide +kernel), by decide, by decide⟩ (zat_t (by decide +kernel)) hsC (vk_recv hZ.2.2.1 Nat.zero_lt_one hS) (by decide) (by first | decide | exact Nat.le_of_ble_eq_true rfl) (show decode (zmB zj_chS) 1 = .ok (.invokevirtual 492, 3) from by decide +kernel) hl.1 hP hD hS rfl ?_
  intro v9 w9 H locs h9 hP hD hS _
  obtain ⟨rfl, e9⟩ := h9
  rw [e9] at hP hD
  refine lv_if_eq hx hb (show decode (zmB zj_chS) 4 = .ok (.ifCond .eq 12, 3) from by decide +kernel) (tgt := 16) (by decide) (fun z => absurd z (by decide)) (fun _ => ?_)
  refine lv_aload_n hx hb (show decode (zmB zj_chS) 7 = .ok (.aload_n 0, 1) from by decide +kernel) rfl (lv_at hl 0 rfl) ?_
  refine vk_getf (ref := "java/lang/String") hx hb (hZ.2.2.1.1 0 (by decide)).2.2.1 hS hown (hts (Cond.fieldLink "java/lang/String" 9 "java/lang/String" "value" "[B") (zat_t (by decide +kernel))) (fun _ h => h) (show decode (zmB zj_chS) 8 = .ok (.getfield 9, 3) from by decide +kernel) ?_
  refine lv_iload_n hx hb (show decode (zmB zj_chS) 11 = .ok (.iload_n 1, 1) from by decide +kernel) rfl (lv_at hl 1 rfl) ?_
  refine zb_S (q := zj_chL) X hR (zjt_chL hk k1 k2 k3) ⟨zat_t (by decide +kernel), zat_t (by decide +kernel), zat_t (by decide +kernel), rfl, ⟨by decide +kernel, by decide +kernel⟩, (show (parseMethodDescriptor (zmN zj_chL).desc).map (fun d => d.parameters.length) = some 2 from by decide +kernel), by decide, by decide⟩ (zat_t (by decide +kernel)) (by decide) (by first | decide | exact Nat.le_of_ble_eq_true rfl) (show decode (zmB zj_chS) 12 = .ok (.invokestatic 495, 3) from by decide +kernel) hl.1 hP hD hS rfl ?_
  intro v9 w9 H locs h9 hP hD hS _
  obtain ⟨rfl, e9⟩ := h9
  rw [e9] at hP hD
  refine W.widen (k := 0) (n := 0) (by first | decide | omega) (by first | decide | omega) ?_
  exact W.zret hx hb hr k1.2 (fun t ht _ => ⟨⟨some (.int (nI ch)), _, rfl, ⟨rfl, rfl⟩, by rw [ht]; exact hP, hD⟩, hS.F ht⟩) hS.2.2 (show decode (zmB zj_chS) 15 = .ok (.ireturn, 1) from by decide +kernel) hlocks
