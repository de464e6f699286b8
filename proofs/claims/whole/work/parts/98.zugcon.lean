/-! THE START: rows of nothing -/
set_option maxRecDepth 1000000 in
theorem g2H_t0 : ∀ p, p < 40 → ∀ q, q < 40 → hI g2H 1 (40 * p + q) = nI 0 := by decide +kernel
set_option maxRecDepth 1000000 in
theorem g2H_t1 : ∀ p, p < 40 → ∀ q, q < 40 → hI g2H 108 (40 * p + q) = nI 0 := by decide +kernel
set_option maxRecDepth 1000000 in
theorem g2H_r0 : ∀ p, p < 39 → ∀ q, q < 39 → hI g2H 141 (39 * p + q) = nI 0 := by decide +kernel
set_option maxRecDepth 1000000 in
theorem g2H_y0 : ∀ p, p < 16 → ∀ q, q < 16 → hI g2H 9 (16 * p + q) = nI 0 := by decide +kernel
