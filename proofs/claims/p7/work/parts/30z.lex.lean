theorem wk_sa (x a b : Int32) (h : -a = b) : x - a = x + b := by rw [← h]; exact Int32.sub_eq_add_neg x a
theorem wk_rngU (x : Int32) : x.toInt ≤ 2147483647 := by have := wk_rng x; omega
theorem wk_lex1 {at1 at2 now now2 f : Int} {fu : Nat} (hm : (7 - at1) * 4294967296 + now + 2147483648 + (7 - f) < ((fu + 1 : Nat) : Int)) (h1 : at1 < at2) (h2 : now2 ≤ 2147483647) (h3 : 0 ≤ now) : (7 - at2) * 4294967296 + now2 + 2147483648 + (7 - f) < (fu : Int) := by omega
theorem wk_lex2 {at1 now now2 f : Int} {fu : Nat} (hm : (7 - at1) * 4294967296 + now + 2147483648 + (7 - f) < ((fu + 1 : Nat) : Int)) (h1 : now2 = now + (-1)) : (7 - at1) * 4294967296 + now2 + 2147483648 + (7 - f) < (fu : Int) := by omega
theorem wk_lex3 {at1 now f f2 : Int} {fu : Nat} (hm : (7 - at1) * 4294967296 + now + 2147483648 + (7 - f) < ((fu + 1 : Nat) : Int)) (h1 : f < f2) : (7 - at1) * 4294967296 + now + 2147483648 + (7 - f2) < (fu : Int) := by omega
