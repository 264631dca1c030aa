/-! the String constants of this claim: own, entry, text -/
def zNone : List (String × Nat) := [("Doublecoat", 229), ("DoublecoatModel", 300)]
def zStr : List (String × Nat × String) := [("Doublecoat", 108, "the coat is pawned"), ("Doublecoat", 122, "the coat is not pawned, or the purse has not so much"), ("Doublecoat", 140, "nobody plays"), ("Doublecoat", 229, "none"), ("Doublecoat", 309, "out of its range"), ("Doublecoat", 312, "not a set of what there is"), ("Doublecoat", 316, "there is no such number"), ("Doublecoat", 319, "there are no more"), ("DoublecoatModel", 300, "none")]
