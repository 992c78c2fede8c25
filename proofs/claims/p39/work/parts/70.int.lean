/-! whole numbers: heaps of Int, and the rules over them -/
abbrev zJ : Type := Nat → Nat → Int
def zhi (s : zJ) : zH := fun p f => Int32.ofInt (s p f)
theorem zhi_up (s : zJ) (p f : Nat) (v : Int) : zup (zhi s) p f (Int32.ofInt v) = zhi (zup s p f v) := by
  funext a j
  unfold zup zhi
  by_cases h : a = p ∧ j = f
  · simp only [h, and_self, if_true]
  · simp only [h, if_false]
theorem zup_ej {s : zJ} {p f : Nat} {v : Int} : zup s p f v p f = v := if_pos ⟨rfl, rfl⟩
theorem zup_nj {s : zJ} {p f q k : Nat} {v : Int} (h : ¬ (q = p ∧ k = f)) : zup s p f v q k = s q k := if_neg h
theorem zj_ti {a : Int} (h : -2147483648 ≤ a ∧ a < 2147483648) : (Int32.ofInt a).toInt = a := Int32.toInt_ofInt_of_le (by omega) (by omega)
theorem zj_td {a b : Int} (h : -2147483648 ≤ a ∧ a < 2147483648) (k : -2147483648 ≤ b ∧ b < 2147483648) : Int32.ofInt (a.tdiv b) = Int32.ofInt a / Int32.ofInt b := by
  have e1 : Int32.minValue.toInt = -2147483648 := by decide
  have e2 : Int32.maxValue.toInt = 2147483647 := by decide
  exact Int32.ofInt_tdiv (by omega) (by omega) (by omega) (by omega)
theorem zj_lt {a b : Int} (h : -2147483648 ≤ a ∧ a < 2147483648) (k : -2147483648 ≤ b ∧ b < 2147483648) : (Int32.ofInt a < Int32.ofInt b) = (a < b) := by
  rw [Int32.lt_iff_toInt_lt, zj_ti h, zj_ti k]
theorem zj_le {a b : Int} (h : -2147483648 ≤ a ∧ a < 2147483648) (k : -2147483648 ≤ b ∧ b < 2147483648) : (Int32.ofInt a ≤ Int32.ofInt b) = (a ≤ b) := by
  rw [Int32.le_iff_toInt_le, zj_ti h, zj_ti k]
theorem zj_eq {a b : Int} (h : -2147483648 ≤ a ∧ a < 2147483648) (k : -2147483648 ≤ b ∧ b < 2147483648) : (Int32.ofInt a = Int32.ofInt b) = (a = b) := by
  apply propext
  constructor
  · intro q
    rw [← zj_ti h, ← zj_ti k, q]
  · intro q
    rw [q]
/-- any whole number stands for one of the range -/
theorem zj_n (e : Int) : ∃ v : Int, (-2147483648 ≤ v ∧ v < 2147483648) ∧ Int32.ofInt e = Int32.ofInt v := ⟨(Int32.ofInt e).toInt, ⟨Int32.le_toInt _, Int32.toInt_lt _⟩, (Int32.ofInt_toInt _).symm⟩
theorem zj_w (w : Int32) : ∃ v : Int, (-2147483648 ≤ v ∧ v < 2147483648) ∧ w = Int32.ofInt v := ⟨w.toInt, ⟨Int32.le_toInt _, Int32.toInt_lt _⟩, (Int32.ofInt_toInt _).symm⟩
theorem zj_cl {i : Int} (h : 0 ≤ i ∧ i < 2147483648) : (Int32.ofInt i).toNatClampNeg = i.toNat := by
  show (Int32.ofInt i).toInt.toNat = i.toNat
  rw [zj_ti ⟨by omega, by omega⟩]
theorem zj_in {i : Int} {n : Nat} (h : 0 ≤ i ∧ i < n) (hn : n < 2147483648) : zin (Int32.ofInt i) n = true := by
  unfold zin
  rw [decide_eq_true_eq, zj_cl ⟨h.1, by omega⟩]
  rintro (q | q)
  · have h2 := Int32.lt_iff_toInt_lt.mp q
    rw [zj_ti ⟨by omega, by omega⟩] at h2
    have h3 : (0 : Int32).toInt = 0 := by decide
    omega
  · omega
section ZJR
variable {ro : Nat → Int32 → zS → Option (zO × zS)} {y pc r1 r2 r3 : Nat} {ls : zLs} {st rest : List Value} {σ : zS} {Q : zO → zS → Prop} {tg : List Nat} {L : Nat} {X : zK} {s : zJ} {R : Nat → Nat → Option Nat} {G : Nat → Nat → Int64} {nc ns : Nat}
theorem zW.jadd {a b : Int} (he : zlk (zmC (zP y)) pc = some (.iadd, r1, r2, r3, tg)) (q : zW ro y (pc + 1) ls (.int (Int32.ofInt (a + b)) :: st) σ Q) : zW ro y pc ls (.int (Int32.ofInt b) :: .int (Int32.ofInt a) :: st) σ Q := by
  refine zW.go he (fun rec => ?_) q
  dsimp only [zst]
  rw [Int32.ofInt_add]
theorem zW.jsub {a b : Int} (he : zlk (zmC (zP y)) pc = some (.isub, r1, r2, r3, tg)) (q : zW ro y (pc + 1) ls (.int (Int32.ofInt (a - b)) :: st) σ Q) : zW ro y pc ls (.int (Int32.ofInt b) :: .int (Int32.ofInt a) :: st) σ Q := by
  refine zW.go he (fun rec => ?_) q
  dsimp only [zst]
  rw [Int32.ofInt_sub]
theorem zW.jmul {a b : Int} (he : zlk (zmC (zP y)) pc = some (.imul, r1, r2, r3, tg)) (q : zW ro y (pc + 1) ls (.int (Int32.ofInt (a * b)) :: st) σ Q) : zW ro y pc ls (.int (Int32.ofInt b) :: .int (Int32.ofInt a) :: st) σ Q := by
  refine zW.go he (fun rec => ?_) q
  dsimp only [zst]
  rw [Int32.ofInt_mul]
theorem zW.jneg {a : Int} (he : zlk (zmC (zP y)) pc = some (.ineg, r1, r2, r3, tg)) (q : zW ro y (pc + 1) ls (.int (Int32.ofInt (-a)) :: st) σ Q) : zW ro y pc ls (.int (Int32.ofInt a) :: st) σ Q := by
  refine zW.go he (fun rec => ?_) q
  dsimp only [zst]
  rw [Int32.ofInt_neg]
theorem zW.jinc {a n : Int} {k : Nat} {ls' : zLs} (he : zlk (zmC (zP y)) pc = some (.iinc k n, r1, r2, r3, tg)) (hl : k < ls.length) (hz : zg ls k = some (.int (Int32.ofInt a))) (hs : zs1 ls k (.int (Int32.ofInt (a + n))) = ls') (q : zW ro y (pc + 3) ls' st σ Q) : zW ro y pc ls st σ Q := by
  refine zW.go he (fun rec => ?_) q
  dsimp only [zst]
  rw [if_pos hl, hz, ← hs, Int32.ofInt_add]
theorem zW.jdiv {a b : Int} (he : zlk (zmC (zP y)) pc = some (.idiv, r1, r2, r3, tg)) (h : 0 ≤ a ∧ a < 2147483648 ∧ 0 < b ∧ b < 2147483648) (q : zW ro y (pc + 1) ls (.int (Int32.ofInt (a / b)) :: st) σ Q) : zW ro y pc ls (.int (Int32.ofInt b) :: .int (Int32.ofInt a) :: st) σ Q := by
  refine zW.idiv he ?_ ?_
  · intro h9
    have h8 : Int32.ofInt b = Int32.ofInt 0 := h9
    rw [zj_eq ⟨by omega, by omega⟩ ⟨by decide, by decide⟩] at h8
    omega
  · have h7 : Int32.ofInt a / Int32.ofInt b = Int32.ofInt (a / b) := by
      rw [← Int.tdiv_eq_ediv_of_nonneg h.1]
      exact (zj_td (by omega) (by omega)).symm
    rw [h7]
    exact q
theorem zW.jrem {a b : Int} (he : zlk (zmC (zP y)) pc = some (.irem, r1, r2, r3, tg)) (h : 0 ≤ a ∧ a < 2147483648 ∧ 0 < b ∧ b < 2147483648) (q : zW ro y (pc + 1) ls (.int (Int32.ofInt (a % b)) :: st) σ Q) : zW ro y pc ls (.int (Int32.ofInt b) :: .int (Int32.ofInt a) :: st) σ Q := by
  refine zW.irem he ?_ ?_
  · intro h9
    have h8 : Int32.ofInt b = Int32.ofInt 0 := h9
    rw [zj_eq ⟨by omega, by omega⟩ ⟨by decide, by decide⟩] at h8
    omega
  · have h7 : Int32.ofInt a / Int32.ofInt b = Int32.ofInt (a / b) := by
      rw [← Int.tdiv_eq_ediv_of_nonneg h.1]
      exact (zj_td (by omega) (by omega)).symm
    rw [h7, ← Int32.ofInt_mul, ← Int32.ofInt_sub]
    have h6 : a - a / b * b = a % b := by
      rw [Int.emod_def, Int.mul_comm]
    rw [h6]
    exact q
theorem zW.jif_eq {a : Int} {off : Int} (he : zlk (zmC (zP y)) pc = some (.ifCond .eq off, r1, r2, r3, tg)) (hr : -2147483648 ≤ a ∧ a < 2147483648) (kt : a = 0 → zW ro y r1 ls st σ Q) (kf : ¬ a = 0 → zW ro y (pc + 3) ls st σ Q) : zW ro y pc ls (.int (Int32.ofInt a) :: st) σ Q :=
  zW.if_eq he (fun h => kt ((zj_eq hr (b := 0) (by decide)).mp h)) (fun h => kf (fun q => h (congrArg Int32.ofInt q)))
theorem zW.jif_ne {a : Int} {off : Int} (he : zlk (zmC (zP y)) pc = some (.ifCond .ne off, r1, r2, r3, tg)) (hr : -2147483648 ≤ a ∧ a < 2147483648) (kt : ¬ a = 0 → zW ro y r1 ls st σ Q) (kf : a = 0 → zW ro y (pc + 3) ls st σ Q) : zW ro y pc ls (.int (Int32.ofInt a) :: st) σ Q :=
  zW.if_ne he (fun h => kt (fun q => h (congrArg Int32.ofInt q))) (fun h => kf ((zj_eq hr (b := 0) (by decide)).mp h))
theorem zW.jif_lt {a : Int} {off : Int} (he : zlk (zmC (zP y)) pc = some (.ifCond .lt off, r1, r2, r3, tg)) (hr : -2147483648 ≤ a ∧ a < 2147483648) (kt : a < 0 → zW ro y r1 ls st σ Q) (kf : 0 ≤ a → zW ro y (pc + 3) ls st σ Q) : zW ro y pc ls (.int (Int32.ofInt a) :: st) σ Q :=
  have e : (Int32.ofInt a < 0) = (a < 0) := zj_lt hr (b := 0) (by decide)
  zW.if_lt he (fun h => kt (by rw [e] at h; exact h)) (fun h => kf (by rw [e] at h; exact Int.not_lt.mp h))
theorem zW.jif_ge {a : Int} {off : Int} (he : zlk (zmC (zP y)) pc = some (.ifCond .ge off, r1, r2, r3, tg)) (hr : -2147483648 ≤ a ∧ a < 2147483648) (kt : 0 ≤ a → zW ro y r1 ls st σ Q) (kf : a < 0 → zW ro y (pc + 3) ls st σ Q) : zW ro y pc ls (.int (Int32.ofInt a) :: st) σ Q :=
  have e : (0 ≤ Int32.ofInt a) = (0 ≤ a) := zj_le (a := 0) (by decide) hr
  zW.if_ge he (fun h => kt (by rw [e] at h; exact h)) (fun h => kf (by rw [e] at h; exact Int.not_le.mp h))
theorem zW.jif_gt {a : Int} {off : Int} (he : zlk (zmC (zP y)) pc = some (.ifCond .gt off, r1, r2, r3, tg)) (hr : -2147483648 ≤ a ∧ a < 2147483648) (kt : 0 < a → zW ro y r1 ls st σ Q) (kf : a ≤ 0 → zW ro y (pc + 3) ls st σ Q) : zW ro y pc ls (.int (Int32.ofInt a) :: st) σ Q :=
  have e : (0 < Int32.ofInt a) = (0 < a) := zj_lt (a := 0) (by decide) hr
  zW.if_gt he (fun h => kt (by rw [e] at h; exact h)) (fun h => kf (by rw [e] at h; exact Int.not_lt.mp h))
theorem zW.jif_le {a : Int} {off : Int} (he : zlk (zmC (zP y)) pc = some (.ifCond .le off, r1, r2, r3, tg)) (hr : -2147483648 ≤ a ∧ a < 2147483648) (kt : a ≤ 0 → zW ro y r1 ls st σ Q) (kf : 0 < a → zW ro y (pc + 3) ls st σ Q) : zW ro y pc ls (.int (Int32.ofInt a) :: st) σ Q :=
  have e : (Int32.ofInt a ≤ 0) = (a ≤ 0) := zj_le hr (b := 0) (by decide)
  zW.if_le he (fun h => kt (by rw [e] at h; exact h)) (fun h => kf (by rw [e] at h; exact Int.not_le.mp h))
theorem zW.jcmp_eq {a b : Int} {off : Int} (he : zlk (zmC (zP y)) pc = some (.if_icmp .eq off, r1, r2, r3, tg)) (hr : -2147483648 ≤ a ∧ a < 2147483648 ∧ -2147483648 ≤ b ∧ b < 2147483648) (kt : a = b → zW ro y r1 ls st σ Q) (kf : ¬ a = b → zW ro y (pc + 3) ls st σ Q) : zW ro y pc ls (.int (Int32.ofInt b) :: .int (Int32.ofInt a) :: st) σ Q :=
  zW.icmp_eq he (fun h => kt ((zj_eq ⟨hr.1, hr.2.1⟩ hr.2.2).mp h)) (fun h => kf (fun q => h (congrArg Int32.ofInt q)))
theorem zW.jcmp_ne {a b : Int} {off : Int} (he : zlk (zmC (zP y)) pc = some (.if_icmp .ne off, r1, r2, r3, tg)) (hr : -2147483648 ≤ a ∧ a < 2147483648 ∧ -2147483648 ≤ b ∧ b < 2147483648) (kt : ¬ a = b → zW ro y r1 ls st σ Q) (kf : a = b → zW ro y (pc + 3) ls st σ Q) : zW ro y pc ls (.int (Int32.ofInt b) :: .int (Int32.ofInt a) :: st) σ Q :=
  zW.icmp_ne he (fun h => kt (fun q => h (congrArg Int32.ofInt q))) (fun h => kf ((zj_eq ⟨hr.1, hr.2.1⟩ hr.2.2).mp h))
theorem zW.jcmp_lt {a b : Int} {off : Int} (he : zlk (zmC (zP y)) pc = some (.if_icmp .lt off, r1, r2, r3, tg)) (hr : -2147483648 ≤ a ∧ a < 2147483648 ∧ -2147483648 ≤ b ∧ b < 2147483648) (kt : a < b → zW ro y r1 ls st σ Q) (kf : b ≤ a → zW ro y (pc + 3) ls st σ Q) : zW ro y pc ls (.int (Int32.ofInt b) :: .int (Int32.ofInt a) :: st) σ Q :=
  have e := zj_lt ⟨hr.1, hr.2.1⟩ hr.2.2
  zW.icmp_lt he (fun h => kt (by rw [e] at h; exact h)) (fun h => kf (by rw [e] at h; exact Int.not_lt.mp h))
theorem zW.jcmp_ge {a b : Int} {off : Int} (he : zlk (zmC (zP y)) pc = some (.if_icmp .ge off, r1, r2, r3, tg)) (hr : -2147483648 ≤ a ∧ a < 2147483648 ∧ -2147483648 ≤ b ∧ b < 2147483648) (kt : b ≤ a → zW ro y r1 ls st σ Q) (kf : a < b → zW ro y (pc + 3) ls st σ Q) : zW ro y pc ls (.int (Int32.ofInt b) :: .int (Int32.ofInt a) :: st) σ Q :=
  have e := zj_le hr.2.2 ⟨hr.1, hr.2.1⟩
  zW.icmp_ge he (fun h => kt (by rw [e] at h; exact h)) (fun h => kf (by rw [e] at h; exact Int.not_le.mp h))
theorem zW.jcmp_gt {a b : Int} {off : Int} (he : zlk (zmC (zP y)) pc = some (.if_icmp .gt off, r1, r2, r3, tg)) (hr : -2147483648 ≤ a ∧ a < 2147483648 ∧ -2147483648 ≤ b ∧ b < 2147483648) (kt : b < a → zW ro y r1 ls st σ Q) (kf : a ≤ b → zW ro y (pc + 3) ls st σ Q) : zW ro y pc ls (.int (Int32.ofInt b) :: .int (Int32.ofInt a) :: st) σ Q :=
  have e := zj_lt hr.2.2 ⟨hr.1, hr.2.1⟩
  zW.icmp_gt he (fun h => kt (by rw [e] at h; exact h)) (fun h => kf (by rw [e] at h; exact Int.not_lt.mp h))
theorem zW.jcmp_le {a b : Int} {off : Int} (he : zlk (zmC (zP y)) pc = some (.if_icmp .le off, r1, r2, r3, tg)) (hr : -2147483648 ≤ a ∧ a < 2147483648 ∧ -2147483648 ≤ b ∧ b < 2147483648) (kt : a ≤ b → zW ro y r1 ls st σ Q) (kf : b < a → zW ro y (pc + 3) ls st σ Q) : zW ro y pc ls (.int (Int32.ofInt b) :: .int (Int32.ofInt a) :: st) σ Q :=
  have e := zj_le ⟨hr.1, hr.2.1⟩ hr.2.2
  zW.icmp_le he (fun h => kt (by rw [e] at h; exact h)) (fun h => kf (by rw [e] at h; exact Int.not_le.mp h))
/-- two that are the same -/
theorem zW.jsame_eq {a b : Int} {off : Int} (he : zlk (zmC (zP y)) pc = some (.if_icmp .eq off, r1, r2, r3, tg)) (hr : a = b) (kt : zW ro y r1 ls st σ Q) : zW ro y pc ls (.int (Int32.ofInt b) :: .int (Int32.ofInt a) :: st) σ Q :=
  zW.icmp_eq he (fun _ => kt) (fun h => absurd (congrArg Int32.ofInt hr) h)
theorem zW.jsame_ne {a b : Int} {off : Int} (he : zlk (zmC (zP y)) pc = some (.if_icmp .ne off, r1, r2, r3, tg)) (hr : a = b) (kf : zW ro y (pc + 3) ls st σ Q) : zW ro y pc ls (.int (Int32.ofInt b) :: .int (Int32.ofInt a) :: st) σ Q :=
  zW.icmp_ne he (fun h => absurd (congrArg Int32.ofInt hr) h) (fun _ => kf)
theorem zW.jget {a k m j : Nat} {x : Nat} {v : Int} (he : zlk (zmC (zP y)) pc = some (.getfield x, k, j, r3, tg)) (hk : (zK0 L ++ X)[a]? = some (k, m)) (hz : ∀ (σ : zS) (p f : Nat), zfv ((zFt k).getD j .int) σ p f = .int (σ.2.1 p f)) (hv : s a j = v) (q : zW ro y (pc + 3) ls (.int (Int32.ofInt v) :: st) (zN L X (zhi s) R G nc ns) Q) : zW ro y pc ls (.ref a :: st) (zN L X (zhi s) R G nc ns) Q := by
  refine zW.getf he hk ?_ q
  rw [hz, ← hv]
  rfl
theorem zW.jput {a k m j : Nat} {x : Nat} {v : Int} (he : zlk (zmC (zP y)) pc = some (.putfield x, k, j, r3, tg)) (hk : (zK0 L ++ X)[a]? = some (k, m)) (hz : (zFt k).getD j .int = .int) (q : zW ro y (pc + 3) ls st (zN L X (zhi (zup s a j v)) R G nc ns) Q) : zW ro y pc ls (.int (Int32.ofInt v) :: .ref a :: st) (zN L X (zhi s) R G nc ns) Q := by
  refine zW.putf (σ1 := zN L X (zhi (zup s a j v)) R G nc ns) he hk (by rw [hz]; rfl) (by rw [hz]; rfl) ?_ q
  rw [← zhi_up]
  rfl
theorem zW.jputb {a k m j : Nat} {x : Nat} {v : Int} (he : zlk (zmC (zP y)) pc = some (.putfield x, k, j, r3, tg)) (hk : (zK0 L ++ X)[a]? = some (k, m)) (hn : narrow ((zFt k).getD j .int) (.int (Int32.ofInt v)) = .int (Int32.ofInt v)) (hf : fits ((zFt k).getD j .int) (.int (Int32.ofInt v)) = true) (q : zW ro y (pc + 3) ls st (zN L X (zhi (zup s a j v)) R G nc ns) Q) : zW ro y pc ls (.int (Int32.ofInt v) :: .ref a :: st) (zN L X (zhi s) R G nc ns) Q := by
  refine zW.putf (σ1 := zN L X (zhi (zup s a j v)) R G nc ns) he hk hn hf ?_ q
  rw [← zhi_up]
  rfl
theorem zW.jald {a n : Nat} {i v : Int} (he : zlk (zmC (zP y)) pc = some (.iaload, r1, r2, r3, tg)) (hk : (zK0 L ++ X)[a]? = some (100, n)) (hn : n < 2147483648) (hi : 0 ≤ i ∧ i < n) (hv : s a i.toNat = v) (q : zW ro y (pc + 1) ls (.int (Int32.ofInt v) :: st) (zN L X (zhi s) R G nc ns) Q) : zW ro y pc ls (.int (Int32.ofInt i) :: .ref a :: st) (zN L X (zhi s) R G nc ns) Q := by
  refine zW.iald (v := Int32.ofInt v) he hk (Or.inl rfl) (zj_in hi hn) ?_ q
  rw [zj_cl ⟨hi.1, by omega⟩, ← hv]
  rfl
/-- the rows that nobody writes -/
theorem zW.jals {a n : Nat} {i v : Int} (he : zlk (zmC (zP y)) pc = some (.iaload, r1, r2, r3, tg)) (hk : (zK0 L ++ X)[a]? = some (200, n)) (hn : n < 2147483648) (hi : 0 ≤ i ∧ i < n) (hv : s a i.toNat = v) (q : zW ro y (pc + 1) ls (.int (Int32.ofInt v) :: st) (zN L X (zhi s) R G nc ns) Q) : zW ro y pc ls (.int (Int32.ofInt i) :: .ref a :: st) (zN L X (zhi s) R G nc ns) Q := by
  refine zW.iald (v := Int32.ofInt v) he hk (Or.inr rfl) (zj_in hi hn) ?_ q
  rw [zj_cl ⟨hi.1, by omega⟩, ← hv]
  rfl
theorem zW.jast {a n : Nat} {i v : Int} (he : zlk (zmC (zP y)) pc = some (.iastore, r1, r2, r3, tg)) (hk : (zK0 L ++ X)[a]? = some (100, n)) (hn : n < 2147483648) (hi : 0 ≤ i ∧ i < n) (q : zW ro y (pc + 1) ls st (zN L X (zhi (zup s a i.toNat v)) R G nc ns) Q) : zW ro y pc ls (.int (Int32.ofInt v) :: .int (Int32.ofInt i) :: .ref a :: st) (zN L X (zhi s) R G nc ns) Q := by
  refine zW.iast he hk (zj_in hi hn) ?_
  rw [zj_cl ⟨hi.1, by omega⟩]
  show zW ro y (pc + 1) ls st (zN L X (zup (zhi s) a i.toNat (Int32.ofInt v)) R G nc ns) Q
  rw [zhi_up]
  exact q
theorem zW.jaald {a k n : Nat} {i : Int} {v : Value} (he : zlk (zmC (zP y)) pc = some (.aaload, r1, r2, r3, tg)) (hk : (zK0 L ++ X)[a]? = some (k, n)) (hkk : k = 103 ∨ k = 104 ∨ k = 105) (hn : n < 2147483648) (hi : 0 ≤ i ∧ i < n) (hv : va_rf (R a i.toNat) = v) (q : zW ro y (pc + 1) ls (v :: st) (zN L X (zhi s) R G nc ns) Q) : zW ro y pc ls (.int (Int32.ofInt i) :: .ref a :: st) (zN L X (zhi s) R G nc ns) Q := by
  refine zW.aald he hk hkk (zj_in hi hn) ?_ q
  rw [zj_cl ⟨hi.1, by omega⟩]
  exact hv
theorem zW.jtab {df lo hi : Int} {offs : Array Int} {x : Int} (he : zlk (zmC (zP y)) pc = some (.tableswitch df lo hi offs, r1, r2, r3, tg)) (hr : -2147483648 ≤ x ∧ x < 2147483648) (k1 : x < lo ∨ hi < x → zW ro y r2 ls st σ Q) (k2 : ∀ j t : Nat, x = lo + j → tg[j]? = some t → zW ro y t ls st σ Q) (hlen : hi + 1 ≤ lo + tg.length) : zW ro y pc ls (.int (Int32.ofInt x) :: st) σ Q :=
  zW.tab he (fun h => k1 (by rw [zj_ti hr] at h; exact h)) (fun j t h => k2 j t (by rw [zj_ti hr] at h; exact h)) hlen
theorem zW.jret {v : Int} (he : zlk (zmC (zP y)) pc = some (.ireturn, r1, r2, r3, tg)) (hr : zmR (zP y) = some .int) (hq : Q (.inl (some (.int (Int32.ofInt v)))) σ) : zW ro y pc ls [.int (Int32.ofInt v)] σ Q := zW.iret he hr rfl hq
theorem zW.jretb {v : Int} (he : zlk (zmC (zP y)) pc = some (.ireturn, r1, r2, r3, tg)) (hr : zmR (zP y) = some .boolean) (hb : v = 0 ∨ v = 1) (hq : Q (.inl (some (.int (Int32.ofInt v)))) σ) : zW ro y pc ls [.int (Int32.ofInt v)] σ Q := zW.iret he hr (by
  rcases hb with h | h <;> rw [h] <;> decide) hq
theorem zW.cut {P : Prop} (h : P) (k : P → zW ro y pc ls st σ Q) : zW ro y pc ls st σ Q := k h
end ZJR
