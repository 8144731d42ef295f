theorem cx_orb : ∀ b, b < 256 → ∀ q, q < 8 → nI b ||| (nI 1 <<< (nI q &&& 31)) = nI (b ||| 2 ^ q) := by decide +kernel
theorem cx_xorb : ∀ b, b < 256 → ∀ q, q < 8 → b.testBit q = true → nI b &&& ((nI 1 <<< (nI q &&& 31)) ^^^ -1) = nI (b ^^^ 2 ^ q) := by decide +kernel
