theorem gk_law : ga_okb "GravyRoundLaw" code false 4 gc_law = true := by decide +kernel
