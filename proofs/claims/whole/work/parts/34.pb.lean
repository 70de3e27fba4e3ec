/-! good and holds: the class's masks against the reference's words, cell by cell -/
def gdq (ρ k : Nat) (d : Int32) : Bool := (if ((fX1_init_c82 (128 * ρ + k)) >>> ((d + 2) &&& 31)) &&& 1 = 1 then (1 : Int32) else 0) == fX2_isGood (nI ρ) (nI k - 64) d
def gdr (ρ k : Nat) : Bool := gdq ρ k (-2) && gdq ρ k (-1) && gdq ρ k 0 && gdq ρ k 1 && gdq ρ k 2
set_option maxRecDepth 100000 in
theorem gd_a : ∀ ρ, ρ < 8 → ∀ k, k < 128 → gdr ρ k = true := by decide +kernel
set_option maxRecDepth 100000 in
theorem gd_b : ∀ ρ, ρ < 8 → ∀ k, k < 128 → gdr (8 + ρ) k = true := by decide +kernel
theorem gd_all {ρ k : Nat} (hρ : ρ < 16) (hk : k < 128) : gdr ρ k = true := by
  by_cases h : ρ < 8
  · exact gd_a ρ h k hk
  · have := gd_b (ρ - 8) (by omega) k hk
    rwa [show 8 + (ρ - 8) = ρ by omega] at this
set_option maxRecDepth 100000 in
theorem hd_all : ∀ ρ, ρ < 16 → ∀ k, k < 128 → fX1_holdsAny (nI ρ) (nI k - 64) = fX2_isHeld (nI ρ) (nI k - 64) := by decide +kernel
