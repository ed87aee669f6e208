theorem qj_plain : ∀ m, m < 10 → plainFor (qct m).1 = true := by decide +kernel
