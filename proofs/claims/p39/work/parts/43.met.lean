/-! contracts: a method of the interpreter's is a method of the machine -/
/-- the words that stay, whoever is asked -/
def zTb : List Cond := lw_tbl.filter goodWord
/-- words of other kinds that stay too -/
def zWk (w : Cond) : Bool := match w with
  | .castable _ _ => true
  | .declares _ => true
  | .fieldLinkNest _ _ _ _ _ _ => true
  | .methodLinkNest _ _ _ _ => true
  | _ => false
def zWs : List Cond := lw_tbl.filter zWk
theorem zWk_warm {w : Cond} {s U : State} (hw : zWk w = true) (hW : s.WarmedH U.vm) (h : va_Nw w s) : va_Nw w U := by
  cases w with
  | castable C T => exact va_Nw.warmC hW h
  | declares x => exact va_Nw.warmD hW h
  | fieldLinkNest a i b n d h' => exact va_Nw.warmF hW h
  | methodLinkNest a i x h' => exact va_Nw.warmM hW h
  | _ => cases hw
theorem zWk_tabs {w : Cond} (hw : zWk w = true) : w.onTables = true := by
  cases w <;> first | rfl | (cases hw; done)
/-- string constants that are thrown with: whose, which, what -/
def zSr (w : Cond) : Option (String × Nat × String) := match w with
  | .stringRef a i t => some (a, i, t)
  | _ => none
def zStr : List (String × Nat × String) := lw_tbl.filterMap zSr
/-- pairs of classes of which one isn't the other -/
def zNcs : List (String × String) := [("java/lang/IllegalStateException", "java/lang/IndexOutOfBoundsException"), ("java/lang/IndexOutOfBoundsException", "java/lang/IllegalStateException"), ("java/lang/IllegalArgumentException", "java/lang/IndexOutOfBoundsException"), ("java/lang/IllegalArgumentException", "java/lang/IllegalStateException")]
def zyE : MethodName := ⟨"java/lang/AbstractStringBuilder", "ensureCapacityInternal", "(I)V"⟩
theorem zyE_warm {s U : State} (hW : s.WarmedH U.vm) (h : (Cond.selects "java/lang/StringBuilder" zyE zyE).before #[] s = true) : (Cond.selects "java/lang/StringBuilder" zyE zyE).before #[] U = true :=
  pay_in (big := [Cond.selects "java/lang/StringBuilder" zyE zyE]) (ws := [Cond.selects "java/lang/StringBuilder" zyE zyE]) (args := #[]) (fun w hw => by rw [List.mem_singleton.mp hw]; exact h) (fun w hw => ⟨hw, good_of_word (by rw [List.mem_singleton.mp hw]; rfl)⟩) _ (List.mem_singleton.mpr rfl) #[] U hW
/-- what the text of a row asks: the statics of the texts, the signs -/
def zTx (A : Nat → Prop) (U : State) (H : Heap) : Prop := (Cond.selects "java/lang/StringBuilder" zyE zyE).before #[] U = true ∧ va_Z "java/lang/String" "COMPACT_STRINGS" "Z" (.int 1) A U H ∧ va_Zq "jdk/internal/util/Preconditions" "SIOOBE_FORMATTER" "Ljava/util/function/BiFunction;" A U H ∧ ∃ ka va : Nat → Nat, vk_R "Siegelines" 566 ".#~Tc=/u" (ka 0) U ∧ vk_S 1 [8] [[46, 35, 126, 84, 99, 61, 47, 117]] ka va A U H
theorem zTx.to {A B : Nat → Prop} {s U : State} {H H1 : Heap} (h : zTx A s H) (hW : s.WarmedH U.vm) (hq : ∀ a : Nat, a < H.size → ¬ A a → H1[a]? = H[a]?) (hAB : ∀ q, B q → A q) : zTx B U H1 := by
  obtain ⟨a0, a1, a2, ka, va, a3, a4⟩ := h
  exact ⟨zyE_warm hW a0, va_Z.moved hW.alike (va_Z.narrow (a1.kept hq) hAB), va_Zq.moved hW.alike (va_Zq.narrow (va_Zq.kept a2 hq) hAB), ka, va, vk_R.warm hW a3, vk_S.moved hW.alike (vk_S.narrow (vk_S.kept a4 hq) hAB)⟩
/-- what is so all the time, beside the world: seen from a state, of what the method may not change -/
def zVm (Y : zY) (L : List Nat) (A : Nat → Prop) (U : State) (H : Heap) : Prop :=
  (∀ p, p < Y.2.1 → va_T .int (L.getD p 0) (Y.2.2.2 p) (fun j => .int (Y.2.2.1 p j)) A U H) ∧
  (∀ k, k < 5 → va_Z "Siegelines" (zSN k) "[I" (.ref (L.getD k 0)) A U H) ∧
  vx_Zq Bundle.tN "UNASSIGNED_STACK" Bundle.steD A U H ∧ vx_Zq Bundle.tN "SUPPRESSED_SENTINEL" Bundle.listD A U H ∧
  (∀ x ∈ zStr, ∃ sa, vk_R x.1 x.2.1 x.2.2 sa U) ∧ (∀ x ∈ zNcs, va_Nc x.1 x.2 U) ∧ (∀ w ∈ zWs, va_Nw w U) ∧ (zTx A U H ∧ ∀ k, k = 103 ∨ k = 104 ∨ k = 105 → va_AO (zAC k) U) ∧ va_K Y.1.1 Y.1.2.1 (zTys Y.1.2.2.2) U
theorem vx_Zq.to {C n d : String} {A B : Nat → Prop} {s U : State} {H H1 : Heap} (h : vx_Zq C n d A s H) (hW : s.WarmedH U.vm) (hq : ∀ a : Nat, a < H.size → ¬ A a → H1[a]? = H[a]?) (hAB : ∀ q, B q → A q) : vx_Zq C n d B U H1 := vx_Zq.moved hW.alike (vx_Zq.narrow (h.kept hq) hAB)
theorem zVm.to {Y : zY} {L L' : List Nat} {A B : Nat → Prop} {s U : State} {H H1 : Heap} (h : zVm Y L A s H) (hW : s.WarmedH U.vm) (hz : H.size ≤ H1.size) (hq : ∀ a : Nat, a < H.size → ¬ A a → H1[a]? = H[a]?) (hAB : ∀ q, B q → A q) (hL : L <+: L') (hm : Y.2.1 ≤ L.length) (h5 : 5 ≤ L.length) : zVm Y L' B U H1 := by
  obtain ⟨a1, a2, a3, a4, a5, a6, a7, a8, a9⟩ := h
  refine ⟨fun p hp => ?_, fun k hk => ?_, a3.to hW hq hAB, a4.to hW hq hAB, fun x hx => ?_, fun x hx => va_Nc.moved hW.alike (a6 x hx), fun w hw => zWk_warm (List.mem_filter.mp hw).2 hW (a7 w hw), ⟨a8.1.to hW hq hAB, fun k hk => va_AO.moved hW.alike (a8.2 k hk)⟩, va_K.moved hW.alike a9⟩
  · rw [zget_pre hL (by omega)]
    exact va_T.moved hW.alike (va_T.narrow ((a1 p hp).kept hq) hAB)
  · rw [zget_pre hL (by omega)]
    exact va_Z.moved hW.alike (va_Z.narrow ((a2 k hk).kept hq) hAB)
  · obtain ⟨sa, hs⟩ := a5 x hx
    exact ⟨sa, vk_R.warm hW hs⟩
/-- frames that come and go change nothing of it -/
theorem zVm.calling {Y : zY} {L : List Nat} {A : Nat → Prop} {U : State} {H : Heap} {g : JFrame} {mk : MethodId} {a : Array Value} (h : zVm Y L A U H) (hm : Y.2.1 ≤ L.length) (h5 : 5 ≤ L.length) : zVm Y L A (U.calling g mk a) H := h.to (U := U.calling g mk a) (State.WarmedH.refl U) (Nat.le_refl _) (fun _ _ _ => rfl) (fun _ q => q) (List.prefix_refl L) hm h5
/-- a method's start -/
def zPc (Y : zY) (L : List Nat) (σ : zS) (sz : Nat) (vs : List Value) : Array Value → State → Prop := va_Pc (vs.map (zt L)) (fun U => U.heap.size = sz ∧ L.length = σ.1.length ∧ 6 ≤ Y.2.1 ∧ Y.2.1 ≤ L.length ∧ zVH σ ∧ zKi Y.2.1 σ.1 ∧ va_P Y.1.1 Y.1.2.1 (zw Y.1.2.2.1 Y.1.2.2.2 Y.2.1 L σ) U.heap ∧ va_D (fun _ => True) (zw Y.1.2.2.1 Y.1.2.2.2 Y.2.1 L σ) ∧ (∀ p, p < Y.2.1 → σ.2.1 p = Y.2.2.1 p ∧ σ.1[p]? = some (200, Y.2.2.2 p)) ∧ zVm Y L (va_A (zw Y.1.2.2.1 Y.1.2.2.2 Y.2.1 L σ) sz) U U.heap ∧ zso L.length vs)
theorem zPc_blind (Y : zY) (L : List Nat) (σ : zS) (sz : Nat) (vs : List Value) : FrameBlind (zPc Y L σ sz vs) := by
  intro a U g mk h
  obtain ⟨h1, h2, h3, h4, h5, h6, h7, h8, h9, h10, h11, h12⟩ := h
  exact ⟨h1, h2, h3, h4, h5, h6, h7, h8, h9, h10, h11.calling h5 (by omega), h12⟩
/-- a method's word -/
def zcw (q : zM) : Cond := if zmH q = [] then .code (zmN q) (zmB q) (zmL q) (zmR q) else .codeWith (zmN q) (zmB q) (zmL q) (zmR q) (zmH q)
def zws (q : zM) : List Cond := zcw q :: zTb
def zrm (q : zM) (mc ms : Nat) : Room := { frames := zmF q, cells := mc, slots := ms, locals := zmW q }
def zMet (l : Launch) (Y : zY) (P : Nat → zM) (y : Nat) (vs : List Value) (σ : zS) (o : zO) (σ' : zS) : Prop := ∀ (L : List Nat) (sz : Nat), vx_Met l (zmN (P y)) (zws (P y)) (zrm (P y) (znc σ' - znc σ) (zns σ' - zns σ)) (zPc Y L σ sz vs) (zQc Y (va_A (zw Y.1.2.2.1 Y.1.2.2.2 Y.2.1 L σ) sz) L o σ') (zXc Y (va_A (zw Y.1.2.2.1 Y.1.2.2.2 Y.2.1 L σ) sz) L o σ') (znc σ' - znc σ) (zns σ' - zns σ) (va_A (zw Y.1.2.2.1 Y.1.2.2.2 Y.2.1 L σ) sz)
