/-! a row's length -/
theorem zrow_ok {l : Launch} {Y : zY} (hl : l.stackTraces = false) (e1 : Y.1.2.1 = zCl) (e2 : Y.1.2.2.1 = zFt) : zRow l Y zP zro := by
  sorry
