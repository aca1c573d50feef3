/-! ===== ways and forced, all of them ===== -/
def fF (c t : Nat) : Int32 := if inn (46 * c + t) 512 = 0 then 0 else fA (46 * c + t) 512
def fok (c t : Nat) : Bool := decide (fF c t = nI (2 * ((fF c t).toNatClampNeg / 2))) && (decide ((fF c t).toNatClampNeg / 2 < 512) && (decide (inn (46 * c + t) 512 = inn (46 * (9 - c) + (45 - t)) 512) && (decide (bcN 9 (2 * ((fF c t).toNatClampNeg / 2)) ≤ c) && (decide (inn (46 * c + t) 512 = 1) == decide (bcN 9 (2 * ((fF c t).toNatClampNeg / 2)) = c) && decide (fF (9 - c) (45 - t) &&& fF c t = 0)))))
theorem fok_all : ∀ c, c < 8 → ∀ t, t < 44 → fok (c + 1) (t + 1) = true := by decide +kernel
