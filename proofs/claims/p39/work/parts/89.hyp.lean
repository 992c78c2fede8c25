/-! what the simulation asks of the tables, but for the rows' lengths -/
theorem zat_in {w : Cond} (h : (decide (w ∈ lw_tbl) && (goodWord w || zWk w)) = true) : w ∈ zTb ∨ w ∈ zWs := by
  rw [Bool.and_eq_true, Bool.or_eq_true] at h
  rcases h with ⟨h1, h2 | h2⟩
  · exact Or.inl (List.mem_filter.mpr ⟨of_decide_eq_true h1, h2⟩)
  · exact Or.inr (List.mem_filter.mpr ⟨of_decide_eq_true h1, h2⟩)
theorem zat_t {w : Cond} (h : (decide (w ∈ lw_tbl) && goodWord w) = true) : w ∈ zTb := by
  rw [Bool.and_eq_true] at h
  exact List.mem_filter.mpr ⟨of_decide_eq_true h.1, h.2⟩
theorem zat_w {w : Cond} (h : (decide (w ∈ lw_tbl) && zWk w) = true) : w ∈ zWs := by
  rw [Bool.and_eq_true] at h
  exact List.mem_filter.mpr ⟨of_decide_eq_true h.1, h.2⟩
set_option maxRecDepth 100000 in
theorem zat_86 : ((vx_atS "Siegelines" (zic 86) (zEx 86) zNm).all fun w => decide (w ∈ lw_tbl) && (goodWord w || zWk w)) = true := by decide +kernel
set_option maxRecDepth 100000 in
theorem zat_43 : ((vx_atS "Siegelines" (zic 43) (zEx 43) zNm).all fun w => decide (w ∈ lw_tbl) && (goodWord w || zWk w)) = true := by decide +kernel
set_option maxRecDepth 100000 in
theorem zat_0 : ((vx_atS "Siegelines" (zic 0) (zEx 0) zNm).all fun w => decide (w ∈ lw_tbl) && (goodWord w || zWk w)) = true := by decide +kernel
set_option maxRecDepth 100000 in
theorem zca_86 : Cond.castable (zEx 86) (zEx 86) ∈ zWs := zat_w (by decide +kernel)
set_option maxRecDepth 100000 in
theorem zca_43 : Cond.castable (zEx 43) (zEx 43) ∈ zWs := zat_w (by decide +kernel)
set_option maxRecDepth 100000 in
theorem zcl_86 : Cond.classLink "Siegelines" (zik 86) (zEx 86) ∈ zTb ∧ Cond.initialized (zEx 86) ∈ zTb := ⟨zat_t (by decide +kernel), zat_t (by decide +kernel)⟩
set_option maxRecDepth 100000 in
theorem zcl_43 : Cond.classLink "Siegelines" (zik 43) (zEx 43) ∈ zTb ∧ Cond.initialized (zEx 43) ∈ zTb := ⟨zat_t (by decide +kernel), zat_t (by decide +kernel)⟩
set_option maxRecDepth 100000 in
theorem zcl_0 : Cond.classLink "Siegelines" (zik 0) (zEx 0) ∈ zTb ∧ Cond.initialized (zEx 0) ∈ zTb := ⟨zat_t (by decide +kernel), zat_t (by decide +kernel)⟩
set_option maxRecDepth 100000 in
theorem zobj : Cond.instanceMethod Lib.objectInit ∈ zTb ∧ Cond.code Lib.objectInit ⟨#[0xb1]⟩ 1 none ∈ zTb := ⟨zat_t (by decide +kernel), zat_t (by decide +kernel)⟩
set_option maxRecDepth 100000 in
theorem zh_all : ∀ q ∈ zProg, ∀ x ∈ zmH q, (x.2.2.2 = 86 ∨ x.2.2.2 = 43) ∧ Cond.classLink (zmN q).cls x.2.2.2 (zEx x.2.2.2) ∈ zTb := by
  intro q hq
  unfold zProg at hq
  rcases List.mem_cons.mp hq with rfl | hq
  · exact fun x hx => absurd (show x ∈ ([] : List (Nat × Nat × Nat × Nat)) from hx) List.not_mem_nil
  rcases List.mem_cons.mp hq with rfl | hq
  · exact fun x hx => absurd (show x ∈ ([] : List (Nat × Nat × Nat × Nat)) from hx) List.not_mem_nil
  rcases List.mem_cons.mp hq with rfl | hq
  · exact fun x hx => absurd (show x ∈ ([] : List (Nat × Nat × Nat × Nat)) from hx) List.not_mem_nil
  rcases List.mem_cons.mp hq with rfl | hq
  · exact fun x hx => absurd (show x ∈ ([] : List (Nat × Nat × Nat × Nat)) from hx) List.not_mem_nil
  rcases List.mem_cons.mp hq with rfl | hq
  · exact fun x hx => absurd (show x ∈ ([] : List (Nat × Nat × Nat × Nat)) from hx) List.not_mem_nil
  rcases List.mem_cons.mp hq with rfl | hq
  · exact fun x hx => absurd (show x ∈ ([] : List (Nat × Nat × Nat × Nat)) from hx) List.not_mem_nil
  rcases List.mem_cons.mp hq with rfl | hq
  · exact fun x hx => absurd (show x ∈ ([] : List (Nat × Nat × Nat × Nat)) from hx) List.not_mem_nil
  rcases List.mem_cons.mp hq with rfl | hq
  · exact fun x hx => absurd (show x ∈ ([] : List (Nat × Nat × Nat × Nat)) from hx) List.not_mem_nil
  rcases List.mem_cons.mp hq with rfl | hq
  · exact fun x hx => absurd (show x ∈ ([] : List (Nat × Nat × Nat × Nat)) from hx) List.not_mem_nil
  rcases List.mem_cons.mp hq with rfl | hq
  · exact fun x hx => absurd (show x ∈ ([] : List (Nat × Nat × Nat × Nat)) from hx) List.not_mem_nil
  rcases List.mem_cons.mp hq with rfl | hq
  · exact fun x hx => absurd (show x ∈ ([] : List (Nat × Nat × Nat × Nat)) from hx) List.not_mem_nil
  rcases List.mem_cons.mp hq with rfl | hq
  · exact fun x hx => absurd (show x ∈ ([] : List (Nat × Nat × Nat × Nat)) from hx) List.not_mem_nil
  rcases List.mem_cons.mp hq with rfl | hq
  · exact fun x hx => absurd (show x ∈ ([] : List (Nat × Nat × Nat × Nat)) from hx) List.not_mem_nil
  rcases List.mem_cons.mp hq with rfl | hq
  · exact fun x hx => absurd (show x ∈ ([] : List (Nat × Nat × Nat × Nat)) from hx) List.not_mem_nil
  rcases List.mem_cons.mp hq with rfl | hq
  · exact fun x hx => absurd (show x ∈ ([] : List (Nat × Nat × Nat × Nat)) from hx) List.not_mem_nil
  rcases List.mem_cons.mp hq with rfl | hq
  · exact fun x hx => absurd (show x ∈ ([] : List (Nat × Nat × Nat × Nat)) from hx) List.not_mem_nil
  rcases List.mem_cons.mp hq with rfl | hq
  · exact fun x hx => absurd (show x ∈ ([] : List (Nat × Nat × Nat × Nat)) from hx) List.not_mem_nil
  rcases List.mem_cons.mp hq with rfl | hq
  · exact fun x hx => absurd (show x ∈ ([] : List (Nat × Nat × Nat × Nat)) from hx) List.not_mem_nil
  rcases List.mem_cons.mp hq with rfl | hq
  · exact fun x hx => absurd (show x ∈ ([] : List (Nat × Nat × Nat × Nat)) from hx) List.not_mem_nil
  rcases List.mem_cons.mp hq with rfl | hq
  · exact fun x hx => absurd (show x ∈ ([] : List (Nat × Nat × Nat × Nat)) from hx) List.not_mem_nil
  rcases List.mem_cons.mp hq with rfl | hq
  · exact fun x hx => absurd (show x ∈ ([] : List (Nat × Nat × Nat × Nat)) from hx) List.not_mem_nil
  rcases List.mem_cons.mp hq with rfl | hq
  · exact fun x hx => absurd (show x ∈ ([] : List (Nat × Nat × Nat × Nat)) from hx) List.not_mem_nil
  rcases List.mem_cons.mp hq with rfl | hq
  · exact fun x hx => absurd (show x ∈ ([] : List (Nat × Nat × Nat × Nat)) from hx) List.not_mem_nil
  rcases List.mem_cons.mp hq with rfl | hq
  · exact fun x hx => absurd (show x ∈ ([] : List (Nat × Nat × Nat × Nat)) from hx) List.not_mem_nil
  rcases List.mem_cons.mp hq with rfl | hq
  · exact fun x hx => absurd (show x ∈ ([] : List (Nat × Nat × Nat × Nat)) from hx) List.not_mem_nil
  rcases List.mem_cons.mp hq with rfl | hq
  · exact fun x hx => absurd (show x ∈ ([] : List (Nat × Nat × Nat × Nat)) from hx) List.not_mem_nil
  rcases List.mem_cons.mp hq with rfl | hq
  · exact fun x hx => absurd (show x ∈ ([] : List (Nat × Nat × Nat × Nat)) from hx) List.not_mem_nil
  rcases List.mem_cons.mp hq with rfl | hq
  · exact fun x hx => absurd (show x ∈ ([] : List (Nat × Nat × Nat × Nat)) from hx) List.not_mem_nil
  rcases List.mem_cons.mp hq with rfl | hq
  · exact fun x hx => absurd (show x ∈ ([] : List (Nat × Nat × Nat × Nat)) from hx) List.not_mem_nil
  rcases List.mem_cons.mp hq with rfl | hq
  · exact fun x hx => absurd (show x ∈ ([] : List (Nat × Nat × Nat × Nat)) from hx) List.not_mem_nil
  rcases List.mem_cons.mp hq with rfl | hq
  · exact fun x hx => absurd (show x ∈ ([] : List (Nat × Nat × Nat × Nat)) from hx) List.not_mem_nil
  rcases List.mem_cons.mp hq with rfl | hq
  · exact fun x hx => absurd (show x ∈ ([] : List (Nat × Nat × Nat × Nat)) from hx) List.not_mem_nil
  rcases List.mem_cons.mp hq with rfl | hq
  · exact fun x hx => absurd (show x ∈ ([] : List (Nat × Nat × Nat × Nat)) from hx) List.not_mem_nil
  rcases List.mem_cons.mp hq with rfl | hq
  · exact fun x hx => absurd (show x ∈ ([] : List (Nat × Nat × Nat × Nat)) from hx) List.not_mem_nil
  rcases List.mem_cons.mp hq with rfl | hq
  · exact fun x hx => absurd (show x ∈ ([] : List (Nat × Nat × Nat × Nat)) from hx) List.not_mem_nil
  rcases List.mem_cons.mp hq with rfl | hq
  · exact fun x hx => absurd (show x ∈ ([] : List (Nat × Nat × Nat × Nat)) from hx) List.not_mem_nil
  rcases List.mem_cons.mp hq with rfl | hq
  · exact fun x hx => absurd (show x ∈ ([] : List (Nat × Nat × Nat × Nat)) from hx) List.not_mem_nil
  rcases List.mem_cons.mp hq with rfl | hq
  · exact fun x hx => absurd (show x ∈ ([] : List (Nat × Nat × Nat × Nat)) from hx) List.not_mem_nil
  rcases List.mem_cons.mp hq with rfl | hq
  · exact fun x hx => absurd (show x ∈ ([] : List (Nat × Nat × Nat × Nat)) from hx) List.not_mem_nil
  rcases List.mem_cons.mp hq with rfl | hq
  · exact fun x hx => absurd (show x ∈ ([] : List (Nat × Nat × Nat × Nat)) from hx) List.not_mem_nil
  rcases List.mem_cons.mp hq with rfl | hq
  · exact fun x hx => absurd (show x ∈ ([] : List (Nat × Nat × Nat × Nat)) from hx) List.not_mem_nil
  rcases List.mem_cons.mp hq with rfl | hq
  · exact fun x hx => absurd (show x ∈ ([] : List (Nat × Nat × Nat × Nat)) from hx) List.not_mem_nil
  rcases List.mem_cons.mp hq with rfl | hq
  · exact fun x hx => absurd (show x ∈ ([] : List (Nat × Nat × Nat × Nat)) from hx) List.not_mem_nil
  rcases List.mem_cons.mp hq with rfl | hq
  · exact fun x hx => absurd (show x ∈ ([] : List (Nat × Nat × Nat × Nat)) from hx) List.not_mem_nil
  rcases List.mem_cons.mp hq with rfl | hq
  · exact fun x hx => absurd (show x ∈ ([] : List (Nat × Nat × Nat × Nat)) from hx) List.not_mem_nil
  rcases List.mem_cons.mp hq with rfl | hq
  · exact fun x hx => absurd (show x ∈ ([] : List (Nat × Nat × Nat × Nat)) from hx) List.not_mem_nil
  rcases List.mem_cons.mp hq with rfl | hq
  · exact fun x hx => absurd (show x ∈ ([] : List (Nat × Nat × Nat × Nat)) from hx) List.not_mem_nil
  rcases List.mem_cons.mp hq with rfl | hq
  · exact fun x hx => absurd (show x ∈ ([] : List (Nat × Nat × Nat × Nat)) from hx) List.not_mem_nil
  rcases List.mem_cons.mp hq with rfl | hq
  · exact fun x hx => absurd (show x ∈ ([] : List (Nat × Nat × Nat × Nat)) from hx) List.not_mem_nil
  rcases List.mem_cons.mp hq with rfl | hq
  · exact fun x hx => absurd (show x ∈ ([] : List (Nat × Nat × Nat × Nat)) from hx) List.not_mem_nil
  rcases List.mem_cons.mp hq with rfl | hq
  · exact fun x hx => absurd (show x ∈ ([] : List (Nat × Nat × Nat × Nat)) from hx) List.not_mem_nil
  rcases List.mem_cons.mp hq with rfl | hq
  · exact fun x hx => absurd (show x ∈ ([] : List (Nat × Nat × Nat × Nat)) from hx) List.not_mem_nil
  rcases List.mem_cons.mp hq with rfl | hq
  · exact fun x hx => absurd (show x ∈ ([] : List (Nat × Nat × Nat × Nat)) from hx) List.not_mem_nil
  rcases List.mem_cons.mp hq with rfl | hq
  · exact fun x hx => absurd (show x ∈ ([] : List (Nat × Nat × Nat × Nat)) from hx) List.not_mem_nil
  rcases List.mem_cons.mp hq with rfl | hq
  · exact fun x hx => absurd (show x ∈ ([] : List (Nat × Nat × Nat × Nat)) from hx) List.not_mem_nil
  rcases List.mem_cons.mp hq with rfl | hq
  · exact fun x hx => absurd (show x ∈ ([] : List (Nat × Nat × Nat × Nat)) from hx) List.not_mem_nil
  rcases List.mem_cons.mp hq with rfl | hq
  · exact fun x hx => absurd (show x ∈ ([] : List (Nat × Nat × Nat × Nat)) from hx) List.not_mem_nil
  rcases List.mem_cons.mp hq with rfl | hq
  · exact fun x hx => absurd (show x ∈ ([] : List (Nat × Nat × Nat × Nat)) from hx) List.not_mem_nil
  rcases List.mem_cons.mp hq with rfl | hq
  · exact fun x hx => absurd (show x ∈ ([] : List (Nat × Nat × Nat × Nat)) from hx) List.not_mem_nil
  rcases List.mem_cons.mp hq with rfl | hq
  · exact fun x hx => absurd (show x ∈ ([] : List (Nat × Nat × Nat × Nat)) from hx) List.not_mem_nil
  rcases List.mem_cons.mp hq with rfl | hq
  · exact fun x hx => absurd (show x ∈ ([] : List (Nat × Nat × Nat × Nat)) from hx) List.not_mem_nil
  rcases List.mem_cons.mp hq with rfl | hq
  · exact fun x hx => absurd (show x ∈ ([] : List (Nat × Nat × Nat × Nat)) from hx) List.not_mem_nil
  rcases List.mem_cons.mp hq with rfl | hq
  · exact fun x hx => absurd (show x ∈ ([] : List (Nat × Nat × Nat × Nat)) from hx) List.not_mem_nil
  rcases List.mem_cons.mp hq with rfl | hq
  · exact fun x hx => absurd (show x ∈ ([] : List (Nat × Nat × Nat × Nat)) from hx) List.not_mem_nil
  rcases List.mem_cons.mp hq with rfl | hq
  · exact fun x hx => absurd (show x ∈ ([] : List (Nat × Nat × Nat × Nat)) from hx) List.not_mem_nil
  rcases List.mem_cons.mp hq with rfl | hq
  · exact fun x hx => absurd (show x ∈ ([] : List (Nat × Nat × Nat × Nat)) from hx) List.not_mem_nil
  rcases List.mem_cons.mp hq with rfl | hq
  · exact fun x hx => absurd (show x ∈ ([] : List (Nat × Nat × Nat × Nat)) from hx) List.not_mem_nil
  rcases List.mem_cons.mp hq with rfl | hq
  · exact fun x hx => absurd (show x ∈ ([] : List (Nat × Nat × Nat × Nat)) from hx) List.not_mem_nil
  rcases List.mem_cons.mp hq with rfl | hq
  · exact fun x hx => absurd (show x ∈ ([] : List (Nat × Nat × Nat × Nat)) from hx) List.not_mem_nil
  rcases List.mem_cons.mp hq with rfl | hq
  · exact fun x hx => absurd (show x ∈ ([] : List (Nat × Nat × Nat × Nat)) from hx) List.not_mem_nil
  rcases List.mem_cons.mp hq with rfl | hq
  · exact fun x hx => absurd (show x ∈ ([] : List (Nat × Nat × Nat × Nat)) from hx) List.not_mem_nil
  rcases List.mem_cons.mp hq with rfl | hq
  · exact fun x hx => absurd (show x ∈ ([] : List (Nat × Nat × Nat × Nat)) from hx) List.not_mem_nil
  rcases List.mem_cons.mp hq with rfl | hq
  · exact fun x hx => absurd (show x ∈ ([] : List (Nat × Nat × Nat × Nat)) from hx) List.not_mem_nil
  rcases List.mem_cons.mp hq with rfl | hq
  · exact fun x hx => absurd (show x ∈ ([] : List (Nat × Nat × Nat × Nat)) from hx) List.not_mem_nil
  rcases List.mem_cons.mp hq with rfl | hq
  · exact fun x hx => absurd (show x ∈ ([] : List (Nat × Nat × Nat × Nat)) from hx) List.not_mem_nil
  rcases List.mem_cons.mp hq with rfl | hq
  · exact fun x hx => absurd (show x ∈ ([] : List (Nat × Nat × Nat × Nat)) from hx) List.not_mem_nil
  rcases List.mem_cons.mp hq with rfl | hq
  · exact fun x hx => absurd (show x ∈ ([] : List (Nat × Nat × Nat × Nat)) from hx) List.not_mem_nil
  rcases List.mem_cons.mp hq with rfl | hq
  · exact fun x hx => absurd (show x ∈ ([] : List (Nat × Nat × Nat × Nat)) from hx) List.not_mem_nil
  rcases List.mem_cons.mp hq with rfl | hq
  · exact fun x hx => absurd (show x ∈ ([] : List (Nat × Nat × Nat × Nat)) from hx) List.not_mem_nil
  rcases List.mem_cons.mp hq with rfl | hq
  · exact fun x hx => absurd (show x ∈ ([] : List (Nat × Nat × Nat × Nat)) from hx) List.not_mem_nil
  rcases List.mem_cons.mp hq with rfl | hq
  · exact fun x hx => absurd (show x ∈ ([] : List (Nat × Nat × Nat × Nat)) from hx) List.not_mem_nil
  rcases List.mem_cons.mp hq with rfl | hq
  · exact fun x hx => absurd (show x ∈ ([] : List (Nat × Nat × Nat × Nat)) from hx) List.not_mem_nil
  rcases List.mem_cons.mp hq with rfl | hq
  · exact fun x hx => absurd (show x ∈ ([] : List (Nat × Nat × Nat × Nat)) from hx) List.not_mem_nil
  rcases List.mem_cons.mp hq with rfl | hq
  · exact fun x hx => absurd (show x ∈ ([] : List (Nat × Nat × Nat × Nat)) from hx) List.not_mem_nil
  rcases List.mem_cons.mp hq with rfl | hq
  · exact fun x hx => absurd (show x ∈ ([] : List (Nat × Nat × Nat × Nat)) from hx) List.not_mem_nil
  rcases List.mem_cons.mp hq with rfl | hq
  · exact fun x hx => absurd (show x ∈ ([] : List (Nat × Nat × Nat × Nat)) from hx) List.not_mem_nil
  rcases List.mem_cons.mp hq with rfl | hq
  · exact fun x hx => absurd (show x ∈ ([] : List (Nat × Nat × Nat × Nat)) from hx) List.not_mem_nil
  rcases List.mem_cons.mp hq with rfl | hq
  · exact fun x hx => absurd (show x ∈ ([] : List (Nat × Nat × Nat × Nat)) from hx) List.not_mem_nil
  rcases List.mem_cons.mp hq with rfl | hq
  · exact fun x hx => absurd (show x ∈ ([] : List (Nat × Nat × Nat × Nat)) from hx) List.not_mem_nil
  rcases List.mem_cons.mp hq with rfl | hq
  · exact fun x hx => absurd (show x ∈ ([] : List (Nat × Nat × Nat × Nat)) from hx) List.not_mem_nil
  rcases List.mem_cons.mp hq with rfl | hq
  · exact fun x hx => absurd (show x ∈ ([] : List (Nat × Nat × Nat × Nat)) from hx) List.not_mem_nil
  rcases List.mem_cons.mp hq with rfl | hq
  · exact fun x hx => absurd (show x ∈ ([] : List (Nat × Nat × Nat × Nat)) from hx) List.not_mem_nil
  rcases List.mem_cons.mp hq with rfl | hq
  · exact fun x hx => absurd (show x ∈ ([] : List (Nat × Nat × Nat × Nat)) from hx) List.not_mem_nil
  rcases List.mem_cons.mp hq with rfl | hq
  · exact fun x hx => absurd (show x ∈ ([] : List (Nat × Nat × Nat × Nat)) from hx) List.not_mem_nil
  rcases List.mem_cons.mp hq with rfl | hq
  · exact fun x hx => absurd (show x ∈ ([] : List (Nat × Nat × Nat × Nat)) from hx) List.not_mem_nil
  rcases List.mem_cons.mp hq with rfl | hq
  · exact fun x hx => absurd (show x ∈ ([] : List (Nat × Nat × Nat × Nat)) from hx) List.not_mem_nil
  rcases List.mem_cons.mp hq with rfl | hq
  · exact fun x hx => absurd (show x ∈ ([] : List (Nat × Nat × Nat × Nat)) from hx) List.not_mem_nil
  rcases List.mem_cons.mp hq with rfl | hq
  · exact fun x hx => absurd (show x ∈ ([] : List (Nat × Nat × Nat × Nat)) from hx) List.not_mem_nil
  rcases List.mem_cons.mp hq with rfl | hq
  · exact fun x hx => absurd (show x ∈ ([] : List (Nat × Nat × Nat × Nat)) from hx) List.not_mem_nil
  rcases List.mem_cons.mp hq with rfl | hq
  · exact fun x hx => absurd (show x ∈ ([] : List (Nat × Nat × Nat × Nat)) from hx) List.not_mem_nil
  rcases List.mem_cons.mp hq with rfl | hq
  · exact fun x hx => absurd (show x ∈ ([] : List (Nat × Nat × Nat × Nat)) from hx) List.not_mem_nil
  rcases List.mem_cons.mp hq with rfl | hq
  · exact fun x hx => absurd (show x ∈ ([] : List (Nat × Nat × Nat × Nat)) from hx) List.not_mem_nil
  rcases List.mem_cons.mp hq with rfl | hq
  · exact fun x hx => absurd (show x ∈ ([] : List (Nat × Nat × Nat × Nat)) from hx) List.not_mem_nil
  rcases List.mem_cons.mp hq with rfl | hq
  · exact fun x hx => absurd (show x ∈ ([] : List (Nat × Nat × Nat × Nat)) from hx) List.not_mem_nil
  rcases List.mem_cons.mp hq with rfl | hq
  · exact fun x hx => absurd (show x ∈ ([] : List (Nat × Nat × Nat × Nat)) from hx) List.not_mem_nil
  rcases List.mem_cons.mp hq with rfl | hq
  · exact fun x hx => absurd (show x ∈ ([] : List (Nat × Nat × Nat × Nat)) from hx) List.not_mem_nil
  rcases List.mem_cons.mp hq with rfl | hq
  · exact fun x hx => absurd (show x ∈ ([] : List (Nat × Nat × Nat × Nat)) from hx) List.not_mem_nil
  rcases List.mem_cons.mp hq with rfl | hq
  · exact fun x hx => absurd (show x ∈ ([] : List (Nat × Nat × Nat × Nat)) from hx) List.not_mem_nil
  rcases List.mem_cons.mp hq with rfl | hq
  · exact fun x hx => absurd (show x ∈ ([] : List (Nat × Nat × Nat × Nat)) from hx) List.not_mem_nil
  rcases List.mem_cons.mp hq with rfl | hq
  · exact fun x hx => absurd (show x ∈ ([] : List (Nat × Nat × Nat × Nat)) from hx) List.not_mem_nil
  rcases List.mem_cons.mp hq with rfl | hq
  · exact fun x hx => absurd (show x ∈ ([] : List (Nat × Nat × Nat × Nat)) from hx) List.not_mem_nil
  rcases List.mem_cons.mp hq with rfl | hq
  · exact fun x hx => absurd (show x ∈ ([] : List (Nat × Nat × Nat × Nat)) from hx) List.not_mem_nil
  rcases List.mem_cons.mp hq with rfl | hq
  · exact fun x hx => absurd (show x ∈ ([] : List (Nat × Nat × Nat × Nat)) from hx) List.not_mem_nil
  rcases List.mem_cons.mp hq with rfl | hq
  · exact fun x hx => absurd (show x ∈ ([] : List (Nat × Nat × Nat × Nat)) from hx) List.not_mem_nil
  rcases List.mem_cons.mp hq with rfl | hq
  · exact fun x hx => absurd (show x ∈ ([] : List (Nat × Nat × Nat × Nat)) from hx) List.not_mem_nil
  rcases List.mem_cons.mp hq with rfl | hq
  · exact fun x hx => absurd (show x ∈ ([] : List (Nat × Nat × Nat × Nat)) from hx) List.not_mem_nil
  rcases List.mem_cons.mp hq with rfl | hq
  · exact fun x hx => absurd (show x ∈ ([] : List (Nat × Nat × Nat × Nat)) from hx) List.not_mem_nil
  rcases List.mem_cons.mp hq with rfl | hq
  · exact fun x hx => absurd (show x ∈ ([] : List (Nat × Nat × Nat × Nat)) from hx) List.not_mem_nil
  rcases List.mem_cons.mp hq with rfl | hq
  · exact fun x hx => absurd (show x ∈ ([] : List (Nat × Nat × Nat × Nat)) from hx) List.not_mem_nil
  rcases List.mem_cons.mp hq with rfl | hq
  · exact fun x hx => absurd (show x ∈ ([] : List (Nat × Nat × Nat × Nat)) from hx) List.not_mem_nil
  rcases List.mem_cons.mp hq with rfl | hq
  · exact fun x hx => absurd (show x ∈ ([] : List (Nat × Nat × Nat × Nat)) from hx) List.not_mem_nil
  rcases List.mem_cons.mp hq with rfl | hq
  · exact fun x hx => absurd (show x ∈ ([] : List (Nat × Nat × Nat × Nat)) from hx) List.not_mem_nil
  rcases List.mem_cons.mp hq with rfl | hq
  · exact fun x hx => absurd (show x ∈ ([] : List (Nat × Nat × Nat × Nat)) from hx) List.not_mem_nil
  rcases List.mem_cons.mp hq with rfl | hq
  · exact fun x hx => absurd (show x ∈ ([] : List (Nat × Nat × Nat × Nat)) from hx) List.not_mem_nil
  rcases List.mem_cons.mp hq with rfl | hq
  · exact fun x hx => absurd (show x ∈ ([] : List (Nat × Nat × Nat × Nat)) from hx) List.not_mem_nil
  rcases List.mem_cons.mp hq with rfl | hq
  · exact fun x hx => absurd (show x ∈ ([] : List (Nat × Nat × Nat × Nat)) from hx) List.not_mem_nil
  rcases List.mem_cons.mp hq with rfl | hq
  · exact fun x hx => absurd (show x ∈ ([] : List (Nat × Nat × Nat × Nat)) from hx) List.not_mem_nil
  rcases List.mem_cons.mp hq with rfl | hq
  · exact fun x hx => absurd (show x ∈ ([] : List (Nat × Nat × Nat × Nat)) from hx) List.not_mem_nil
  rcases List.mem_cons.mp hq with rfl | hq
  · exact fun x hx => absurd (show x ∈ ([] : List (Nat × Nat × Nat × Nat)) from hx) List.not_mem_nil
  rcases List.mem_cons.mp hq with rfl | hq
  · exact fun x hx => absurd (show x ∈ ([] : List (Nat × Nat × Nat × Nat)) from hx) List.not_mem_nil
  rcases List.mem_cons.mp hq with rfl | hq
  · exact fun x hx => absurd (show x ∈ ([] : List (Nat × Nat × Nat × Nat)) from hx) List.not_mem_nil
  rcases List.mem_cons.mp hq with rfl | hq
  · exact fun x hx => absurd (show x ∈ ([] : List (Nat × Nat × Nat × Nat)) from hx) List.not_mem_nil
  rcases List.mem_cons.mp hq with rfl | hq
  · exact fun x hx => absurd (show x ∈ ([] : List (Nat × Nat × Nat × Nat)) from hx) List.not_mem_nil
  rcases List.mem_cons.mp hq with rfl | hq
  · exact fun x hx => absurd (show x ∈ ([] : List (Nat × Nat × Nat × Nat)) from hx) List.not_mem_nil
  rcases List.mem_cons.mp hq with rfl | hq
  · exact fun x hx => absurd (show x ∈ ([] : List (Nat × Nat × Nat × Nat)) from hx) List.not_mem_nil
  rcases List.mem_cons.mp hq with rfl | hq
  · exact fun x hx => absurd (show x ∈ ([] : List (Nat × Nat × Nat × Nat)) from hx) List.not_mem_nil
  rcases List.mem_cons.mp hq with rfl | hq
  · exact fun x hx => absurd (show x ∈ ([] : List (Nat × Nat × Nat × Nat)) from hx) List.not_mem_nil
  rcases List.mem_cons.mp hq with rfl | hq
  · exact fun x hx => absurd (show x ∈ ([] : List (Nat × Nat × Nat × Nat)) from hx) List.not_mem_nil
  rcases List.mem_cons.mp hq with rfl | hq
  · exact fun x hx => absurd (show x ∈ ([] : List (Nat × Nat × Nat × Nat)) from hx) List.not_mem_nil
  rcases List.mem_cons.mp hq with rfl | hq
  · exact fun x hx => absurd (show x ∈ ([] : List (Nat × Nat × Nat × Nat)) from hx) List.not_mem_nil
  rcases List.mem_cons.mp hq with rfl | hq
  · exact fun x hx => absurd (show x ∈ ([] : List (Nat × Nat × Nat × Nat)) from hx) List.not_mem_nil
  rcases List.mem_cons.mp hq with rfl | hq
  · exact fun x hx => absurd (show x ∈ ([] : List (Nat × Nat × Nat × Nat)) from hx) List.not_mem_nil
  rcases List.mem_cons.mp hq with rfl | hq
  · exact fun x hx => absurd (show x ∈ ([] : List (Nat × Nat × Nat × Nat)) from hx) List.not_mem_nil
  rcases List.mem_cons.mp hq with rfl | hq
  · exact fun x hx => absurd (show x ∈ ([] : List (Nat × Nat × Nat × Nat)) from hx) List.not_mem_nil
  rcases List.mem_cons.mp hq with rfl | hq
  · exact fun x hx => absurd (show x ∈ ([] : List (Nat × Nat × Nat × Nat)) from hx) List.not_mem_nil
  rcases List.mem_cons.mp hq with rfl | hq
  · exact fun x hx => absurd (show x ∈ ([] : List (Nat × Nat × Nat × Nat)) from hx) List.not_mem_nil
  rcases List.mem_cons.mp hq with rfl | hq
  · exact fun x hx => absurd (show x ∈ ([] : List (Nat × Nat × Nat × Nat)) from hx) List.not_mem_nil
  rcases List.mem_cons.mp hq with rfl | hq
  · exact fun x hx => absurd (show x ∈ ([] : List (Nat × Nat × Nat × Nat)) from hx) List.not_mem_nil
  rcases List.mem_cons.mp hq with rfl | hq
  · exact fun x hx => absurd (show x ∈ ([] : List (Nat × Nat × Nat × Nat)) from hx) List.not_mem_nil
  rcases List.mem_cons.mp hq with rfl | hq
  · exact fun x hx => absurd (show x ∈ ([] : List (Nat × Nat × Nat × Nat)) from hx) List.not_mem_nil
  rcases List.mem_cons.mp hq with rfl | hq
  · exact fun x hx => absurd (show x ∈ ([] : List (Nat × Nat × Nat × Nat)) from hx) List.not_mem_nil
  rcases List.mem_cons.mp hq with rfl | hq
  · exact fun x hx => absurd (show x ∈ ([] : List (Nat × Nat × Nat × Nat)) from hx) List.not_mem_nil
  rcases List.mem_cons.mp hq with rfl | hq
  · exact fun x hx => absurd (show x ∈ ([] : List (Nat × Nat × Nat × Nat)) from hx) List.not_mem_nil
  rcases List.mem_cons.mp hq with rfl | hq
  · exact fun x hx => absurd (show x ∈ ([] : List (Nat × Nat × Nat × Nat)) from hx) List.not_mem_nil
  rcases List.mem_cons.mp hq with rfl | hq
  · exact fun x hx => absurd (show x ∈ ([] : List (Nat × Nat × Nat × Nat)) from hx) List.not_mem_nil
  rcases List.mem_cons.mp hq with rfl | hq
  · exact fun x hx => absurd (show x ∈ ([] : List (Nat × Nat × Nat × Nat)) from hx) List.not_mem_nil
  rcases List.mem_cons.mp hq with rfl | hq
  · exact fun x hx => absurd (show x ∈ ([] : List (Nat × Nat × Nat × Nat)) from hx) List.not_mem_nil
  rcases List.mem_cons.mp hq with rfl | hq
  · exact fun x hx => absurd (show x ∈ ([] : List (Nat × Nat × Nat × Nat)) from hx) List.not_mem_nil
  rcases List.mem_cons.mp hq with rfl | hq
  · exact fun x hx => absurd (show x ∈ ([] : List (Nat × Nat × Nat × Nat)) from hx) List.not_mem_nil
  rcases List.mem_cons.mp hq with rfl | hq
  · exact fun x hx => absurd (show x ∈ ([] : List (Nat × Nat × Nat × Nat)) from hx) List.not_mem_nil
  rcases List.mem_cons.mp hq with rfl | hq
  · exact fun x hx => absurd (show x ∈ ([] : List (Nat × Nat × Nat × Nat)) from hx) List.not_mem_nil
  rcases List.mem_cons.mp hq with rfl | hq
  · exact fun x hx => absurd (show x ∈ ([] : List (Nat × Nat × Nat × Nat)) from hx) List.not_mem_nil
  rcases List.mem_cons.mp hq with rfl | hq
  · exact fun x hx => absurd (show x ∈ ([] : List (Nat × Nat × Nat × Nat)) from hx) List.not_mem_nil
  rcases List.mem_cons.mp hq with rfl | hq
  · exact zh_L_isDone
  rcases List.mem_cons.mp hq with rfl | hq
  · exact zh_L_isRefused
  rcases List.mem_cons.mp hq with rfl | hq
  · exact fun x hx => absurd (show x ∈ ([] : List (Nat × Nat × Nat × Nat)) from hx) List.not_mem_nil
  rcases List.mem_cons.mp hq with rfl | hq
  · exact fun x hx => absurd (show x ∈ ([] : List (Nat × Nat × Nat × Nat)) from hx) List.not_mem_nil
  rcases List.mem_cons.mp hq with rfl | hq
  · exact fun x hx => absurd (show x ∈ ([] : List (Nat × Nat × Nat × Nat)) from hx) List.not_mem_nil
  rcases List.mem_cons.mp hq with rfl | hq
  · exact zh_L_size
  rcases List.mem_cons.mp hq with rfl | hq
  · exact fun x hx => absurd (show x ∈ ([] : List (Nat × Nat × Nat × Nat)) from hx) List.not_mem_nil
  rcases List.mem_cons.mp hq with rfl | hq
  · exact fun x hx => absurd (show x ∈ ([] : List (Nat × Nat × Nat × Nat)) from hx) List.not_mem_nil
  rcases List.mem_cons.mp hq with rfl | hq
  · exact fun x hx => absurd (show x ∈ ([] : List (Nat × Nat × Nat × Nat)) from hx) List.not_mem_nil
  rcases List.mem_cons.mp hq with rfl | hq
  · exact fun x hx => absurd (show x ∈ ([] : List (Nat × Nat × Nat × Nat)) from hx) List.not_mem_nil
  cases hq
theorem zh_P (y : Nat) : ∀ x ∈ zmH (zP y), (x.2.2.2 = 86 ∨ x.2.2.2 = 43) ∧ Cond.classLink (zmN (zP y)).cls x.2.2.2 (zEx x.2.2.2) ∈ zTb := by
  rcases Nat.lt_or_ge y zProg.length with q | q
  · refine zh_all (zP y) ?_
    unfold zP
    rw [List.getD_eq_getElem?_getD, List.getElem?_eq_getElem q]
    exact List.getElem_mem q
  · intro x hx
    unfold zP at hx
    rw [List.getD_eq_getElem?_getD, List.getElem?_eq_none q] at hx
    exact absurd (show x ∈ ([] : List (Nat × Nat × Nat × Nat)) from hx) List.not_mem_nil
theorem zhyp_of {l : Launch} {Y : zY} (hl : l.stackTraces = false) (e1 : Y.1.2.1 = zCl) (e2 : Y.1.2.2.1 = zFt) {ro : Nat → Int32 → zS → Option (zO × zS)} (hro : ∀ m r σ o σ', ro m r σ = some (o, σ') → zLe σ σ') (hrow : zRow l Y zP ro) : zHyp l Y zP zic ro := by
  refine ⟨hl, by rw [e1, e2]; exact zCls_ok, by rw [e1]; exact zok_all, zh_P, fun E hE => ?_, fun E hE => ?_, zobj, hro, hrow, fun y h h12 => zmk_all _ (zP_in y h).1 h12⟩
  · rcases hE with h | h <;> subst h
    · exact zca_86
    · exact zca_43
  · rcases hE with h | h | h <;> subst h
    · exact ⟨by decide, zcl_86.1, zcl_86.2, fun w hw => zat_in (List.all_eq_true.mp zat_86 w hw)⟩
    · exact ⟨by decide, zcl_43.1, zcl_43.2, fun w hw => zat_in (List.all_eq_true.mp zat_43 w hw)⟩
    · exact ⟨by decide, zcl_0.1, zcl_0.2, fun w hw => zat_in (List.all_eq_true.mp zat_0 w hw)⟩
