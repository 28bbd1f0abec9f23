/-! each call of the law -/
section
variable {m k N : Nat} {σ : ZS} {xs : Nat → Int32} {q18 : Int32 → ZS → Option (Int32 × ZS)} {x3 : Int32}
theorem lw_1465 (hk : 400 ≤ k) (hm : m ≤ 100000) (h : Rel m σ) (h1 : zin (x3 + (1 : Int32)) N) (h2 : zin (x3 + (2 : Int32)) N) (h3 : zin (x3 + (3 : Int32)) N) (h4 : zin (x3 + (4 : Int32)) N) (h5 : zin (x3 + (5 : Int32)) N) (hq : ∀ s, Rel (m + 1) s → ∃ z, q18 (x3 + 6) s = some (1, z)) : ∃ z, bW_law_1465 k N xs q18 x3 σ = some (1, z) := by
  obtain ⟨r, s1, s2, e1, e2, e3⟩ := op_told (k := k) h (xs (x3 + (1 : Int32)).toNatClampNeg)
  obtain ⟨z, hz⟩ := hq s2 e3
  exact ⟨z, by rw [bW_law_1465, if_pos h1, e1, zbd_some, if_pos h1, e2, zbd_some, if_pos rfl]; exact hz⟩
theorem lw_1442 (hk : 400 ≤ k) (hm : m ≤ 100000) (h : Rel m σ) (h1 : zin (x3 + (1 : Int32)) N) (h2 : zin (x3 + (2 : Int32)) N) (h3 : zin (x3 + (3 : Int32)) N) (h4 : zin (x3 + (4 : Int32)) N) (h5 : zin (x3 + (5 : Int32)) N) (hq : ∀ s, Rel (m + 1) s → ∃ z, q18 (x3 + 6) s = some (1, z)) : ∃ z, bW_law_1442 k N xs q18 x3 σ = some (1, z) := by
  obtain ⟨r, s1, s2, e1, e2, e3⟩ := op_count (k := k) h (xs (x3 + (1 : Int32)).toNatClampNeg)
  obtain ⟨z, hz⟩ := hq s2 e3
  exact ⟨z, by rw [bW_law_1442, if_pos h1, e1, zbd_some, if_pos h1, e2, zbd_some, if_pos rfl]; exact hz⟩
theorem lw_1429 (hk : 400 ≤ k) (hm : m ≤ 100000) (h : Rel m σ) (h1 : zin (x3 + (1 : Int32)) N) (h2 : zin (x3 + (2 : Int32)) N) (h3 : zin (x3 + (3 : Int32)) N) (h4 : zin (x3 + (4 : Int32)) N) (h5 : zin (x3 + (5 : Int32)) N) (hq : ∀ s, Rel (m + 1) s → ∃ z, q18 (x3 + 6) s = some (1, z)) : ∃ z, bW_law_1429 k N xs q18 x3 σ = some (1, z) := by
  obtain ⟨r, s1, s2, e1, e2, e3⟩ := op_check (k := k) (by omega) h 
  obtain ⟨z, hz⟩ := hq s2 e3
  exact ⟨z, by rw [bW_law_1429, e1, zbd_some, e2, zbd_some, if_pos rfl]; exact hz⟩
theorem lw_1406 (hk : 400 ≤ k) (hm : m ≤ 100000) (h : Rel m σ) (h1 : zin (x3 + (1 : Int32)) N) (h2 : zin (x3 + (2 : Int32)) N) (h3 : zin (x3 + (3 : Int32)) N) (h4 : zin (x3 + (4 : Int32)) N) (h5 : zin (x3 + (5 : Int32)) N) (hq : ∀ s, Rel (m + 1) s → ∃ z, q18 (x3 + 6) s = some (1, z)) : ∃ z, bW_law_1406 k N xs q18 x3 σ = some (1, z) := by
  obtain ⟨r, s1, s2, e1, e2, e3⟩ := op_tell (k := k) h (xs (x3 + (1 : Int32)).toNatClampNeg)
  obtain ⟨z, hz⟩ := hq s2 e3
  exact ⟨z, by rw [bW_law_1406, if_pos h1, e1, zbd_some, if_pos h1, e2, zbd_some, if_pos rfl]; exact hz⟩
theorem lw_1393 (hk : 400 ≤ k) (hm : m ≤ 100000) (h : Rel m σ) (h1 : zin (x3 + (1 : Int32)) N) (h2 : zin (x3 + (2 : Int32)) N) (h3 : zin (x3 + (3 : Int32)) N) (h4 : zin (x3 + (4 : Int32)) N) (h5 : zin (x3 + (5 : Int32)) N) (hq : ∀ s, Rel (m + 1) s → ∃ z, q18 (x3 + 6) s = some (1, z)) : ∃ z, bW_law_1393 k N xs q18 x3 σ = some (1, z) := by
  obtain ⟨r, s1, s2, e1, e2, e3⟩ := op_restore (k := k) (by omega) h 
  obtain ⟨z, hz⟩ := hq s2 e3
  exact ⟨z, by rw [bW_law_1393, e1, zbd_some, e2, zbd_some, if_pos rfl]; exact hz⟩
theorem lw_1380 (hk : 400 ≤ k) (hm : m ≤ 100000) (h : Rel m σ) (h1 : zin (x3 + (1 : Int32)) N) (h2 : zin (x3 + (2 : Int32)) N) (h3 : zin (x3 + (3 : Int32)) N) (h4 : zin (x3 + (4 : Int32)) N) (h5 : zin (x3 + (5 : Int32)) N) (hq : ∀ s, Rel (m + 1) s → ∃ z, q18 (x3 + 6) s = some (1, z)) : ∃ z, bW_law_1380 k N xs q18 x3 σ = some (1, z) := by
  obtain ⟨r, s1, s2, e1, e2, e3⟩ := op_image (k := k) (by omega) (by omega) h 
  obtain ⟨z, hz⟩ := hq s2 e3
  exact ⟨z, by rw [bW_law_1380, e1, zbd_some, e2, zbd_some, if_pos rfl]; exact hz⟩
theorem lw_1357 (hk : 400 ≤ k) (hm : m ≤ 100000) (h : Rel m σ) (h1 : zin (x3 + (1 : Int32)) N) (h2 : zin (x3 + (2 : Int32)) N) (h3 : zin (x3 + (3 : Int32)) N) (h4 : zin (x3 + (4 : Int32)) N) (h5 : zin (x3 + (5 : Int32)) N) (hq : ∀ s, Rel (m + 1) s → ∃ z, q18 (x3 + 6) s = some (1, z)) : ∃ z, bW_law_1357 k N xs q18 x3 σ = some (1, z) := by
  obtain ⟨r, s1, s2, e1, e2, e3⟩ := op_judge (k := k) (by omega) h (xs (x3 + (1 : Int32)).toNatClampNeg)
  obtain ⟨z, hz⟩ := hq s2 e3
  exact ⟨z, by rw [bW_law_1357, if_pos h1, e1, zbd_some, if_pos h1, e2, zbd_some, if_pos rfl]; exact hz⟩
theorem lw_1334 (hk : 400 ≤ k) (hm : m ≤ 100000) (h : Rel m σ) (h1 : zin (x3 + (1 : Int32)) N) (h2 : zin (x3 + (2 : Int32)) N) (h3 : zin (x3 + (3 : Int32)) N) (h4 : zin (x3 + (4 : Int32)) N) (h5 : zin (x3 + (5 : Int32)) N) (hq : ∀ s, Rel (m + 1) s → ∃ z, q18 (x3 + 6) s = some (1, z)) : ∃ z, bW_law_1334 k N xs q18 x3 σ = some (1, z) := by
  obtain ⟨r, s1, s2, e1, e2, e3⟩ := op_turnsOf (k := k) (by omega) h (xs (x3 + (1 : Int32)).toNatClampNeg)
  obtain ⟨z, hz⟩ := hq s2 e3
  exact ⟨z, by rw [bW_law_1334, if_pos h1, e1, zbd_some, if_pos h1, e2, zbd_some, if_pos rfl]; exact hz⟩
theorem lw_1271 (hk : 400 ≤ k) (hm : m ≤ 100000) (h : Rel m σ) (h1 : zin (x3 + (1 : Int32)) N) (h2 : zin (x3 + (2 : Int32)) N) (h3 : zin (x3 + (3 : Int32)) N) (h4 : zin (x3 + (4 : Int32)) N) (h5 : zin (x3 + (5 : Int32)) N) (hq : ∀ s, Rel (m + 1) s → ∃ z, q18 (x3 + 6) s = some (1, z)) : ∃ z, bW_law_1271 k N xs q18 x3 σ = some (1, z) := by
  obtain ⟨r, s1, s2, e1, e2, e3⟩ := op_move (k := k) (by omega) h (xs (x3 + (1 : Int32)).toNatClampNeg) (xs (x3 + (2 : Int32)).toNatClampNeg) (xs (x3 + (3 : Int32)).toNatClampNeg) (xs (x3 + (4 : Int32)).toNatClampNeg) (xs (x3 + (5 : Int32)).toNatClampNeg)
  obtain ⟨z, hz⟩ := hq s2 e3
  exact ⟨z, by rw [bW_law_1271, if_pos h1, if_pos h2, if_pos h3, if_pos h4, if_pos h5, e1, zbd_some, if_pos h1, if_pos h2, if_pos h3, if_pos h4, if_pos h5, e2, zbd_some, if_pos rfl]; exact hz⟩
theorem lw_1228 (hk : 400 ≤ k) (hm : m ≤ 100000) (h : Rel m σ) (h1 : zin (x3 + (1 : Int32)) N) (h2 : zin (x3 + (2 : Int32)) N) (h3 : zin (x3 + (3 : Int32)) N) (h4 : zin (x3 + (4 : Int32)) N) (h5 : zin (x3 + (5 : Int32)) N) (hq : ∀ s, Rel (m + 1) s → ∃ z, q18 (x3 + 6) s = some (1, z)) : ∃ z, bW_law_1228 k N xs q18 x3 σ = some (1, z) := by
  obtain ⟨r, s1, s2, e1, e2, e3⟩ := op_put (k := k) h (xs (x3 + (1 : Int32)).toNatClampNeg) (xs (x3 + (2 : Int32)).toNatClampNeg) (xs (x3 + (3 : Int32)).toNatClampNeg)
  obtain ⟨z, hz⟩ := hq s2 e3
  exact ⟨z, by rw [bW_law_1228, if_pos h1, if_pos h2, if_pos h3, e1, zbd_some, if_pos h1, if_pos h2, if_pos h3, e2, zbd_some, if_pos rfl]; exact hz⟩
theorem lw_1185 (hk : 400 ≤ k) (hm : m ≤ 100000) (h : Rel m σ) (h1 : zin (x3 + (1 : Int32)) N) (h2 : zin (x3 + (2 : Int32)) N) (h3 : zin (x3 + (3 : Int32)) N) (h4 : zin (x3 + (4 : Int32)) N) (h5 : zin (x3 + (5 : Int32)) N) (hq : ∀ s, Rel (m + 1) s → ∃ z, q18 (x3 + 6) s = some (1, z)) : ∃ z, bW_law_1185 k N xs q18 x3 σ = some (1, z) := by
  obtain ⟨r, s1, s2, e1, e2, e3⟩ := op_sheet (k := k) (by omega) h (xs (x3 + (1 : Int32)).toNatClampNeg) (xs (x3 + (2 : Int32)).toNatClampNeg) (xs (x3 + (3 : Int32)).toNatClampNeg)
  obtain ⟨z, hz⟩ := hq s2 e3
  exact ⟨z, by rw [bW_law_1185, if_pos h1, if_pos h2, if_pos h3, e1, zbd_some, if_pos h1, if_pos h2, if_pos h3, e2, zbd_some, if_pos rfl]; exact hz⟩
theorem lw_1162 (hk : 400 ≤ k) (hm : m ≤ 100000) (h : Rel m σ) (h1 : zin (x3 + (1 : Int32)) N) (h2 : zin (x3 + (2 : Int32)) N) (h3 : zin (x3 + (3 : Int32)) N) (h4 : zin (x3 + (4 : Int32)) N) (h5 : zin (x3 + (5 : Int32)) N) (hq : ∀ s, Rel (m + 1) s → ∃ z, q18 (x3 + 6) s = some (1, z)) : ∃ z, bW_law_1162 k N xs q18 x3 σ = some (1, z) := by
  obtain ⟨r, s1, s2, e1, e2, e3⟩ := op_body (k := k) h (xs (x3 + (1 : Int32)).toNatClampNeg)
  obtain ⟨z, hz⟩ := hq s2 e3
  exact ⟨z, by rw [bW_law_1162, if_pos h1, e1, zbd_some, if_pos h1, e2, zbd_some, if_pos rfl]; exact hz⟩
theorem lw_1119 (hk : 400 ≤ k) (hm : m ≤ 100000) (h : Rel m σ) (h1 : zin (x3 + (1 : Int32)) N) (h2 : zin (x3 + (2 : Int32)) N) (h3 : zin (x3 + (3 : Int32)) N) (h4 : zin (x3 + (4 : Int32)) N) (h5 : zin (x3 + (5 : Int32)) N) (hq : ∀ s, Rel (m + 1) s → ∃ z, q18 (x3 + 6) s = some (1, z)) : ∃ z, bW_law_1119 k N xs q18 x3 σ = some (1, z) := by
  obtain ⟨r, s1, s2, e1, e2, e3⟩ := op_voice (k := k) (by omega) h (xs (x3 + (1 : Int32)).toNatClampNeg) (xs (x3 + (2 : Int32)).toNatClampNeg) (xs (x3 + (3 : Int32)).toNatClampNeg)
  obtain ⟨z, hz⟩ := hq s2 e3
  exact ⟨z, by rw [bW_law_1119, if_pos h1, if_pos h2, if_pos h3, e1, zbd_some, if_pos h1, if_pos h2, if_pos h3, e2, zbd_some, if_pos rfl]; exact hz⟩
theorem lw_1086 (hk : 400 ≤ k) (hm : m ≤ 100000) (h : Rel m σ) (h1 : zin (x3 + (1 : Int32)) N) (h2 : zin (x3 + (2 : Int32)) N) (h3 : zin (x3 + (3 : Int32)) N) (h4 : zin (x3 + (4 : Int32)) N) (h5 : zin (x3 + (5 : Int32)) N) (hq : ∀ s, Rel (m + 1) s → ∃ z, q18 (x3 + 6) s = some (1, z)) : ∃ z, bW_law_1086 k N xs q18 x3 σ = some (1, z) := by
  obtain ⟨r, s1, s2, e1, e2, e3⟩ := op_fits (k := k) (by omega) h (xs (x3 + (1 : Int32)).toNatClampNeg) (xs (x3 + (2 : Int32)).toNatClampNeg)
  obtain ⟨z, hz⟩ := hq s2 e3
  exact ⟨z, by rw [bW_law_1086, if_pos h1, if_pos h2, e1, zbd_some, if_pos h1, if_pos h2, e2, zbd_some, if_pos rfl]; exact hz⟩
theorem lw_1063 (hk : 400 ≤ k) (hm : m ≤ 100000) (h : Rel m σ) (h1 : zin (x3 + (1 : Int32)) N) (h2 : zin (x3 + (2 : Int32)) N) (h3 : zin (x3 + (3 : Int32)) N) (h4 : zin (x3 + (4 : Int32)) N) (h5 : zin (x3 + (5 : Int32)) N) (hq : ∀ s, Rel (m + 1) s → ∃ z, q18 (x3 + 6) s = some (1, z)) : ∃ z, bW_law_1063 k N xs q18 x3 σ = some (1, z) := by
  obtain ⟨r, s1, s2, e1, e2, e3⟩ := op_odds (k := k) (by omega) h (xs (x3 + (1 : Int32)).toNatClampNeg)
  obtain ⟨z, hz⟩ := hq s2 e3
  exact ⟨z, by rw [bW_law_1063, if_pos h1, e1, zbd_some, if_pos h1, e2, zbd_some, if_pos rfl]; exact hz⟩
theorem lw_1020 (hk : 400 ≤ k) (hm : m ≤ 100000) (h : Rel m σ) (h1 : zin (x3 + (1 : Int32)) N) (h2 : zin (x3 + (2 : Int32)) N) (h3 : zin (x3 + (3 : Int32)) N) (h4 : zin (x3 + (4 : Int32)) N) (h5 : zin (x3 + (5 : Int32)) N) (hq : ∀ s, Rel (m + 1) s → ∃ z, q18 (x3 + 6) s = some (1, z)) : ∃ z, bW_law_1020 k N xs q18 x3 σ = some (1, z) := by
  obtain ⟨r, s1, s2, e1, e2, e3⟩ := op_spins (k := k) (by omega) h (xs (x3 + (1 : Int32)).toNatClampNeg) (xs (x3 + (2 : Int32)).toNatClampNeg) (xs (x3 + (3 : Int32)).toNatClampNeg)
  obtain ⟨z, hz⟩ := hq s2 e3
  exact ⟨z, by rw [bW_law_1020, if_pos h1, if_pos h2, if_pos h3, e1, zbd_some, if_pos h1, if_pos h2, if_pos h3, e2, zbd_some, if_pos rfl]; exact hz⟩
theorem lw_987 (hk : 400 ≤ k) (hm : m ≤ 100000) (h : Rel m σ) (h1 : zin (x3 + (1 : Int32)) N) (h2 : zin (x3 + (2 : Int32)) N) (h3 : zin (x3 + (3 : Int32)) N) (h4 : zin (x3 + (4 : Int32)) N) (h5 : zin (x3 + (5 : Int32)) N) (hq : ∀ s, Rel (m + 1) s → ∃ z, q18 (x3 + 6) s = some (1, z)) : ∃ z, bW_law_987 k N xs q18 x3 σ = some (1, z) := by
  obtain ⟨r, s1, s2, e1, e2, e3⟩ := op_starts (k := k) (by omega) h (xs (x3 + (1 : Int32)).toNatClampNeg) (xs (x3 + (2 : Int32)).toNatClampNeg)
  obtain ⟨z, hz⟩ := hq s2 e3
  exact ⟨z, by rw [bW_law_987, if_pos h1, if_pos h2, e1, zbd_some, if_pos h1, if_pos h2, e2, zbd_some, if_pos rfl]; exact hz⟩
theorem lw_954 (hk : 400 ≤ k) (hm : m ≤ 100000) (h : Rel m σ) (h1 : zin (x3 + (1 : Int32)) N) (h2 : zin (x3 + (2 : Int32)) N) (h3 : zin (x3 + (3 : Int32)) N) (h4 : zin (x3 + (4 : Int32)) N) (h5 : zin (x3 + (5 : Int32)) N) (hq : ∀ s, Rel (m + 1) s → ∃ z, q18 (x3 + 6) s = some (1, z)) : ∃ z, bW_law_954 k N xs q18 x3 σ = some (1, z) := by
  obtain ⟨r, s1, s2, e1, e2, e3⟩ := op_then (k := k) (by omega) h (xs (x3 + (1 : Int32)).toNatClampNeg) (xs (x3 + (2 : Int32)).toNatClampNeg)
  obtain ⟨z, hz⟩ := hq s2 e3
  exact ⟨z, by rw [bW_law_954, if_pos h1, if_pos h2, e1, zbd_some, if_pos h1, if_pos h2, e2, zbd_some, if_pos rfl]; exact hz⟩
theorem lw_931 (hk : 400 ≤ k) (hm : m ≤ 100000) (h : Rel m σ) (h1 : zin (x3 + (1 : Int32)) N) (h2 : zin (x3 + (2 : Int32)) N) (h3 : zin (x3 + (3 : Int32)) N) (h4 : zin (x3 + (4 : Int32)) N) (h5 : zin (x3 + (5 : Int32)) N) (hq : ∀ s, Rel (m + 1) s → ∃ z, q18 (x3 + 6) s = some (1, z)) : ∃ z, bW_law_931 k N xs q18 x3 σ = some (1, z) := by
  obtain ⟨r, s1, s2, e1, e2, e3⟩ := op_sees (k := k) (by omega) h (xs (x3 + (1 : Int32)).toNatClampNeg)
  obtain ⟨z, hz⟩ := hq s2 e3
  exact ⟨z, by rw [bW_law_931, if_pos h1, e1, zbd_some, if_pos h1, e2, zbd_some, if_pos rfl]; exact hz⟩
theorem lw_888 (hk : 400 ≤ k) (hm : m ≤ 100000) (h : Rel m σ) (h1 : zin (x3 + (1 : Int32)) N) (h2 : zin (x3 + (2 : Int32)) N) (h3 : zin (x3 + (3 : Int32)) N) (h4 : zin (x3 + (4 : Int32)) N) (h5 : zin (x3 + (5 : Int32)) N) (hq : ∀ s, Rel (m + 1) s → ∃ z, q18 (x3 + 6) s = some (1, z)) : ∃ z, bW_law_888 k N xs q18 x3 σ = some (1, z) := by
  obtain ⟨r, s1, s2, e1, e2, e3⟩ := op_at (k := k) (by omega) h (xs (x3 + (1 : Int32)).toNatClampNeg) (xs (x3 + (2 : Int32)).toNatClampNeg) (xs (x3 + (3 : Int32)).toNatClampNeg)
  obtain ⟨z, hz⟩ := hq s2 e3
  exact ⟨z, by rw [bW_law_888, if_pos h1, if_pos h2, if_pos h3, e1, zbd_some, if_pos h1, if_pos h2, if_pos h3, e2, zbd_some, if_pos rfl]; exact hz⟩
theorem lw_845 (hk : 400 ≤ k) (hm : m ≤ 100000) (h : Rel m σ) (h1 : zin (x3 + (1 : Int32)) N) (h2 : zin (x3 + (2 : Int32)) N) (h3 : zin (x3 + (3 : Int32)) N) (h4 : zin (x3 + (4 : Int32)) N) (h5 : zin (x3 + (5 : Int32)) N) (hq : ∀ s, Rel (m + 1) s → ∃ z, q18 (x3 + 6) s = some (1, z)) : ∃ z, bW_law_845 k N xs q18 x3 σ = some (1, z) := by
  obtain ⟨r, s1, s2, e1, e2, e3⟩ := op_look (k := k) (by omega) h (xs (x3 + (1 : Int32)).toNatClampNeg) (xs (x3 + (2 : Int32)).toNatClampNeg) (xs (x3 + (3 : Int32)).toNatClampNeg)
  obtain ⟨z, hz⟩ := hq s2 e3
  exact ⟨z, by rw [bW_law_845, if_pos h1, if_pos h2, if_pos h3, e1, zbd_some, if_pos h1, if_pos h2, if_pos h3, e2, zbd_some, if_pos rfl]; exact hz⟩
theorem lw_822 (hk : 400 ≤ k) (hm : m ≤ 100000) (h : Rel m σ) (h1 : zin (x3 + (1 : Int32)) N) (h2 : zin (x3 + (2 : Int32)) N) (h3 : zin (x3 + (3 : Int32)) N) (h4 : zin (x3 + (4 : Int32)) N) (h5 : zin (x3 + (5 : Int32)) N) (hq : ∀ s, Rel (m + 1) s → ∃ z, q18 (x3 + 6) s = some (1, z)) : ∃ z, bW_law_822 k N xs q18 x3 σ = some (1, z) := by
  obtain ⟨r, s1, s2, e1, e2, e3⟩ := op_seed (k := k) h (xs (x3 + (1 : Int32)).toNatClampNeg)
  obtain ⟨z, hz⟩ := hq s2 e3
  exact ⟨z, by rw [bW_law_822, if_pos h1, e1, zbd_some, if_pos h1, e2, zbd_some, if_pos rfl]; exact hz⟩
theorem lw_799 (hk : 400 ≤ k) (hm : m ≤ 100000) (h : Rel m σ) (h1 : zin (x3 + (1 : Int32)) N) (h2 : zin (x3 + (2 : Int32)) N) (h3 : zin (x3 + (3 : Int32)) N) (h4 : zin (x3 + (4 : Int32)) N) (h5 : zin (x3 + (5 : Int32)) N) (hq : ∀ s, Rel (m + 1) s → ∃ z, q18 (x3 + 6) s = some (1, z)) : ∃ z, bW_law_799 k N xs q18 x3 σ = some (1, z) := by
  obtain ⟨r, s1, s2, e1, e2, e3⟩ := op_loose (k := k) (by omega) h (xs (x3 + (1 : Int32)).toNatClampNeg)
  obtain ⟨z, hz⟩ := hq s2 e3
  exact ⟨z, by rw [bW_law_799, if_pos h1, e1, zbd_some, if_pos h1, e2, zbd_some, if_pos rfl]; exact hz⟩
theorem lw_776 (hk : 400 ≤ k) (hm : m ≤ 100000) (h : Rel m σ) (h1 : zin (x3 + (1 : Int32)) N) (h2 : zin (x3 + (2 : Int32)) N) (h3 : zin (x3 + (3 : Int32)) N) (h4 : zin (x3 + (4 : Int32)) N) (h5 : zin (x3 + (5 : Int32)) N) (hq : ∀ s, Rel (m + 1) s → ∃ z, q18 (x3 + 6) s = some (1, z)) : ∃ z, bW_law_776 k N xs q18 x3 σ = some (1, z) := by
  obtain ⟨r, s1, s2, e1, e2, e3⟩ := op_hours (k := k) (by omega) h (xs (x3 + (1 : Int32)).toNatClampNeg)
  obtain ⟨z, hz⟩ := hq s2 e3
  exact ⟨z, by rw [bW_law_776, if_pos h1, e1, zbd_some, if_pos h1, e2, zbd_some, if_pos rfl]; exact hz⟩
theorem lw_723 (hk : 400 ≤ k) (hm : m ≤ 100000) (h : Rel m σ) (h1 : zin (x3 + (1 : Int32)) N) (h2 : zin (x3 + (2 : Int32)) N) (h3 : zin (x3 + (3 : Int32)) N) (h4 : zin (x3 + (4 : Int32)) N) (h5 : zin (x3 + (5 : Int32)) N) (hq : ∀ s, Rel (m + 1) s → ∃ z, q18 (x3 + 6) s = some (1, z)) : ∃ z, bW_law_723 k N xs q18 x3 σ = some (1, z) := by
  obtain ⟨r, s1, s2, e1, e2, e3⟩ := op_law (k := k) (by omega) h (xs (x3 + (1 : Int32)).toNatClampNeg) (xs (x3 + (2 : Int32)).toNatClampNeg) (xs (x3 + (3 : Int32)).toNatClampNeg) (xs (x3 + (4 : Int32)).toNatClampNeg)
  obtain ⟨z, hz⟩ := hq s2 e3
  exact ⟨z, by rw [bW_law_723, if_pos h1, if_pos h2, if_pos h3, if_pos h4, e1, zbd_some, if_pos h1, if_pos h2, if_pos h3, if_pos h4, e2, zbd_some, if_pos rfl]; exact hz⟩
theorem lw_700 (hk : 400 ≤ k) (hm : m ≤ 100000) (h : Rel m σ) (h1 : zin (x3 + (1 : Int32)) N) (h2 : zin (x3 + (2 : Int32)) N) (h3 : zin (x3 + (3 : Int32)) N) (h4 : zin (x3 + (4 : Int32)) N) (h5 : zin (x3 + (5 : Int32)) N) (hq : ∀ s, Rel (m + 1) s → ∃ z, q18 (x3 + 6) s = some (1, z)) : ∃ z, bW_law_700 k N xs q18 x3 σ = some (1, z) := by
  obtain ⟨r, s1, s2, e1, e2, e3⟩ := op_untell (k := k) h (xs (x3 + (1 : Int32)).toNatClampNeg)
  obtain ⟨z, hz⟩ := hq s2 e3
  exact ⟨z, by rw [bW_law_700, if_pos h1, e1, zbd_some, if_pos h1, e2, zbd_some, if_pos rfl]; exact hz⟩
theorem lw_677 (hk : 400 ≤ k) (hm : m ≤ 100000) (h : Rel m σ) (h1 : zin (x3 + (1 : Int32)) N) (h2 : zin (x3 + (2 : Int32)) N) (h3 : zin (x3 + (3 : Int32)) N) (h4 : zin (x3 + (4 : Int32)) N) (h5 : zin (x3 + (5 : Int32)) N) (hq : ∀ s, Rel (m + 1) s → ∃ z, q18 (x3 + 6) s = some (1, z)) : ∃ z, bW_law_677 k N xs q18 x3 σ = some (1, z) := by
  obtain ⟨r, s1, s2, e1, e2, e3⟩ := op_text (k := k) (by omega) h (xs (x3 + (1 : Int32)).toNatClampNeg)
  obtain ⟨z, hz⟩ := hq s2 e3
  exact ⟨z, by rw [bW_law_677, if_pos h1, e1, zbd_some, if_pos h1, e2, zbd_some, if_pos rfl]; exact hz⟩
theorem lw_614 (hk : 400 ≤ k) (hm : m ≤ 100000) (h : Rel m σ) (h1 : zin (x3 + (1 : Int32)) N) (h2 : zin (x3 + (2 : Int32)) N) (h3 : zin (x3 + (3 : Int32)) N) (h4 : zin (x3 + (4 : Int32)) N) (h5 : zin (x3 + (5 : Int32)) N) (hq : ∀ s, Rel (m + 1) s → ∃ z, q18 (x3 + 6) s = some (1, z)) : ∃ z, bW_law_614 k N xs q18 x3 σ = some (1, z) := by
  obtain ⟨r, s1, s2, e1, e2, e3⟩ := op_feed (k := k) (by omega) h (((xs (x3 + (1 : Int32)).toNatClampNeg).toInt64 <<< ((32 : Int32).toInt64 &&& 63)) ||| ((xs (x3 + (2 : Int32)).toNatClampNeg).toInt64 &&& (4294967295 : Int64))) (xs (x3 + (3 : Int32)).toNatClampNeg)
  obtain ⟨z, hz⟩ := hq s2 e3
  exact ⟨z, by rw [bW_law_614, if_pos h1, if_pos h2, if_pos h3, e1, zbd_some, if_pos h1, if_pos h2, if_pos h3, e2, zbd_some, if_pos rfl]; exact hz⟩
theorem lw_591 (hk : 400 ≤ k) (hm : m ≤ 100000) (h : Rel m σ) (h1 : zin (x3 + (1 : Int32)) N) (h2 : zin (x3 + (2 : Int32)) N) (h3 : zin (x3 + (3 : Int32)) N) (h4 : zin (x3 + (4 : Int32)) N) (h5 : zin (x3 + (5 : Int32)) N) (hq : ∀ s, Rel (m + 1) s → ∃ z, q18 (x3 + 6) s = some (1, z)) : ∃ z, bW_law_591 k N xs q18 x3 σ = some (1, z) := by
  obtain ⟨r, s1, s2, e1, e2, e3⟩ := op_hour (k := k) h (xs (x3 + (1 : Int32)).toNatClampNeg)
  obtain ⟨z, hz⟩ := hq s2 e3
  exact ⟨z, by rw [bW_law_591, if_pos h1, e1, zbd_some, if_pos h1, e2, zbd_some, if_pos rfl]; exact hz⟩
theorem lw_558 (hk : 400 ≤ k) (hm : m ≤ 100000) (h : Rel m σ) (h1 : zin (x3 + (1 : Int32)) N) (h2 : zin (x3 + (2 : Int32)) N) (h3 : zin (x3 + (3 : Int32)) N) (h4 : zin (x3 + (4 : Int32)) N) (h5 : zin (x3 + (5 : Int32)) N) (hq : ∀ s, Rel (m + 1) s → ∃ z, q18 (x3 + 6) s = some (1, z)) : ∃ z, bW_law_558 k N xs q18 x3 σ = some (1, z) := by
  obtain ⟨r, s1, s2, e1, e2, e3⟩ := op_pay (k := k) h (xs (x3 + (1 : Int32)).toNatClampNeg) (xs (x3 + (2 : Int32)).toNatClampNeg)
  obtain ⟨z, hz⟩ := hq s2 e3
  exact ⟨z, by rw [bW_law_558, if_pos h1, if_pos h2, e1, zbd_some, if_pos h1, if_pos h2, e2, zbd_some, if_pos rfl]; exact hz⟩
theorem lw_515 (hk : 400 ≤ k) (hm : m ≤ 100000) (h : Rel m σ) (h1 : zin (x3 + (1 : Int32)) N) (h2 : zin (x3 + (2 : Int32)) N) (h3 : zin (x3 + (3 : Int32)) N) (h4 : zin (x3 + (4 : Int32)) N) (h5 : zin (x3 + (5 : Int32)) N) (hq : ∀ s, Rel (m + 1) s → ∃ z, q18 (x3 + 6) s = some (1, z)) : ∃ z, bW_law_515 k N xs q18 x3 σ = some (1, z) := by
  obtain ⟨r, s1, s2, e1, e2, e3⟩ := op_stand (k := k) h (xs (x3 + (1 : Int32)).toNatClampNeg) (xs (x3 + (2 : Int32)).toNatClampNeg) (xs (x3 + (3 : Int32)).toNatClampNeg)
  obtain ⟨z, hz⟩ := hq s2 e3
  exact ⟨z, by rw [bW_law_515, if_pos h1, if_pos h2, if_pos h3, e1, zbd_some, if_pos h1, if_pos h2, if_pos h3, e2, zbd_some, if_pos rfl]; exact hz⟩
theorem lw_482 (hk : 400 ≤ k) (hm : m ≤ 100000) (h : Rel m σ) (h1 : zin (x3 + (1 : Int32)) N) (h2 : zin (x3 + (2 : Int32)) N) (h3 : zin (x3 + (3 : Int32)) N) (h4 : zin (x3 + (4 : Int32)) N) (h5 : zin (x3 + (5 : Int32)) N) (hq : ∀ s, Rel (m + 1) s → ∃ z, q18 (x3 + 6) s = some (1, z)) : ∃ z, bW_law_482 k N xs q18 x3 σ = some (1, z) := by
  obtain ⟨r, s1, s2, e1, e2, e3⟩ := op_personIs (k := k) (by omega) h (xs (x3 + (1 : Int32)).toNatClampNeg) (xs (x3 + (2 : Int32)).toNatClampNeg)
  obtain ⟨z, hz⟩ := hq s2 e3
  exact ⟨z, by rw [bW_law_482, if_pos h1, if_pos h2, e1, zbd_some, if_pos h1, if_pos h2, e2, zbd_some, if_pos rfl]; exact hz⟩
theorem lw_449 (hk : 400 ≤ k) (hm : m ≤ 100000) (h : Rel m σ) (h1 : zin (x3 + (1 : Int32)) N) (h2 : zin (x3 + (2 : Int32)) N) (h3 : zin (x3 + (3 : Int32)) N) (h4 : zin (x3 + (4 : Int32)) N) (h5 : zin (x3 + (5 : Int32)) N) (hq : ∀ s, Rel (m + 1) s → ∃ z, q18 (x3 + 6) s = some (1, z)) : ∃ z, bW_law_449 k N xs q18 x3 σ = some (1, z) := by
  obtain ⟨r, s1, s2, e1, e2, e3⟩ := op_person (k := k) h (xs (x3 + (1 : Int32)).toNatClampNeg) (xs (x3 + (2 : Int32)).toNatClampNeg)
  obtain ⟨z, hz⟩ := hq s2 e3
  exact ⟨z, by rw [bW_law_449, if_pos h1, if_pos h2, e1, zbd_some, if_pos h1, if_pos h2, e2, zbd_some, if_pos rfl]; exact hz⟩
theorem lw_416 (hk : 400 ≤ k) (hm : m ≤ 100000) (h : Rel m σ) (h1 : zin (x3 + (1 : Int32)) N) (h2 : zin (x3 + (2 : Int32)) N) (h3 : zin (x3 + (3 : Int32)) N) (h4 : zin (x3 + (4 : Int32)) N) (h5 : zin (x3 + (5 : Int32)) N) (hq : ∀ s, Rel (m + 1) s → ∃ z, q18 (x3 + 6) s = some (1, z)) : ∃ z, bW_law_416 k N xs q18 x3 σ = some (1, z) := by
  obtain ⟨r, s1, s2, e1, e2, e3⟩ := op_hang (k := k) (by omega) h (xs (x3 + (1 : Int32)).toNatClampNeg) (xs (x3 + (2 : Int32)).toNatClampNeg)
  obtain ⟨z, hz⟩ := hq s2 e3
  exact ⟨z, by rw [bW_law_416, if_pos h1, if_pos h2, e1, zbd_some, if_pos h1, if_pos h2, e2, zbd_some, if_pos rfl]; exact hz⟩
theorem lw_383 (hk : 400 ≤ k) (hm : m ≤ 100000) (h : Rel m σ) (h1 : zin (x3 + (1 : Int32)) N) (h2 : zin (x3 + (2 : Int32)) N) (h3 : zin (x3 + (3 : Int32)) N) (h4 : zin (x3 + (4 : Int32)) N) (h5 : zin (x3 + (5 : Int32)) N) (hq : ∀ s, Rel (m + 1) s → ∃ z, q18 (x3 + 6) s = some (1, z)) : ∃ z, bW_law_383 k N xs q18 x3 σ = some (1, z) := by
  obtain ⟨r, s1, s2, e1, e2, e3⟩ := op_spin (k := k) h (xs (x3 + (1 : Int32)).toNatClampNeg) (xs (x3 + (2 : Int32)).toNatClampNeg)
  obtain ⟨z, hz⟩ := hq s2 e3
  exact ⟨z, by rw [bW_law_383, if_pos h1, if_pos h2, e1, zbd_some, if_pos h1, if_pos h2, e2, zbd_some, if_pos rfl]; exact hz⟩
theorem lw_350 (hk : 400 ≤ k) (hm : m ≤ 100000) (h : Rel m σ) (h1 : zin (x3 + (1 : Int32)) N) (h2 : zin (x3 + (2 : Int32)) N) (h3 : zin (x3 + (3 : Int32)) N) (h4 : zin (x3 + (4 : Int32)) N) (h5 : zin (x3 + (5 : Int32)) N) (hq : ∀ s, Rel (m + 1) s → ∃ z, q18 (x3 + 6) s = some (1, z)) : ∃ z, bW_law_350 k N xs q18 x3 σ = some (1, z) := by
  obtain ⟨r, s1, s2, e1, e2, e3⟩ := op_as (k := k) (by omega) h (xs (x3 + (1 : Int32)).toNatClampNeg) (xs (x3 + (2 : Int32)).toNatClampNeg)
  obtain ⟨z, hz⟩ := hq s2 e3
  exact ⟨z, by rw [bW_law_350, if_pos h1, if_pos h2, e1, zbd_some, if_pos h1, if_pos h2, e2, zbd_some, if_pos rfl]; exact hz⟩
theorem lw_317 (hk : 400 ≤ k) (hm : m ≤ 100000) (h : Rel m σ) (h1 : zin (x3 + (1 : Int32)) N) (h2 : zin (x3 + (2 : Int32)) N) (h3 : zin (x3 + (3 : Int32)) N) (h4 : zin (x3 + (4 : Int32)) N) (h5 : zin (x3 + (5 : Int32)) N) (hq : ∀ s, Rel (m + 1) s → ∃ z, q18 (x3 + 6) s = some (1, z)) : ∃ z, bW_law_317 k N xs q18 x3 σ = some (1, z) := by
  obtain ⟨r, s1, s2, e1, e2, e3⟩ := op_become (k := k) h (xs (x3 + (1 : Int32)).toNatClampNeg) (xs (x3 + (2 : Int32)).toNatClampNeg)
  obtain ⟨z, hz⟩ := hq s2 e3
  exact ⟨z, by rw [bW_law_317, if_pos h1, if_pos h2, e1, zbd_some, if_pos h1, if_pos h2, e2, zbd_some, if_pos rfl]; exact hz⟩
theorem lw_284 (hk : 400 ≤ k) (hm : m ≤ 100000) (h : Rel m σ) (h1 : zin (x3 + (1 : Int32)) N) (h2 : zin (x3 + (2 : Int32)) N) (h3 : zin (x3 + (3 : Int32)) N) (h4 : zin (x3 + (4 : Int32)) N) (h5 : zin (x3 + (5 : Int32)) N) (hq : ∀ s, Rel (m + 1) s → ∃ z, q18 (x3 + 6) s = some (1, z)) : ∃ z, bW_law_284 k N xs q18 x3 σ = some (1, z) := by
  obtain ⟨r, s1, s2, e1, e2, e3⟩ := op_throwsOn (k := k) h (xs (x3 + (1 : Int32)).toNatClampNeg) (xs (x3 + (2 : Int32)).toNatClampNeg)
  obtain ⟨z, hz⟩ := hq s2 e3
  exact ⟨z, by rw [bW_law_284, if_pos h1, if_pos h2, e1, zbd_some, if_pos h1, if_pos h2, e2, zbd_some, if_pos rfl]; exact hz⟩
theorem lw_251 (hk : 400 ≤ k) (hm : m ≤ 100000) (h : Rel m σ) (h1 : zin (x3 + (1 : Int32)) N) (h2 : zin (x3 + (2 : Int32)) N) (h3 : zin (x3 + (3 : Int32)) N) (h4 : zin (x3 + (4 : Int32)) N) (h5 : zin (x3 + (5 : Int32)) N) (hq : ∀ s, Rel (m + 1) s → ∃ z, q18 (x3 + 6) s = some (1, z)) : ∃ z, bW_law_251 k N xs q18 x3 σ = some (1, z) := by
  obtain ⟨r, s1, s2, e1, e2, e3⟩ := op_glassIs (k := k) h (xs (x3 + (1 : Int32)).toNatClampNeg) (xs (x3 + (2 : Int32)).toNatClampNeg)
  obtain ⟨z, hz⟩ := hq s2 e3
  exact ⟨z, by rw [bW_law_251, if_pos h1, if_pos h2, e1, zbd_some, if_pos h1, if_pos h2, e2, zbd_some, if_pos rfl]; exact hz⟩
theorem lw_208 (hk : 400 ≤ k) (hm : m ≤ 100000) (h : Rel m σ) (h1 : zin (x3 + (1 : Int32)) N) (h2 : zin (x3 + (2 : Int32)) N) (h3 : zin (x3 + (3 : Int32)) N) (h4 : zin (x3 + (4 : Int32)) N) (h5 : zin (x3 + (5 : Int32)) N) (hq : ∀ s, Rel (m + 1) s → ∃ z, q18 (x3 + 6) s = some (1, z)) : ∃ z, bW_law_208 k N xs q18 x3 σ = some (1, z) := by
  obtain ⟨r, s1, s2, e1, e2, e3⟩ := op_glass (k := k) (by omega) h (xs (x3 + (1 : Int32)).toNatClampNeg) (xs (x3 + (2 : Int32)).toNatClampNeg) (xs (x3 + (3 : Int32)).toNatClampNeg)
  obtain ⟨z, hz⟩ := hq s2 e3
  exact ⟨z, by rw [bW_law_208, if_pos h1, if_pos h2, if_pos h3, e1, zbd_some, if_pos h1, if_pos h2, if_pos h3, e2, zbd_some, if_pos rfl]; exact hz⟩
end
