theorem en_fill (l : Launch) {T : en_T} {j n : Nat} {b v : Int × Int} (hj : T[j]? = some (.inl (0, n, b))) (hn : n < 2147483648) : en_ok l (6, [.inr (j + 2), .inl v], T, none, T.set j (.inl (0, n, v)), 0, 0, 0, 0) := sorry
theorem en_lawmake (l : Launch) {κ : en_K} {x y : en_S} (hx : x = x) (hy : y = y) (h1 : true = true) (h2 : true = true) : en_ok l κ := sorry
theorem en_rowsmake (l : Launch) {κ : en_K} {x y : en_S} (hx : x = x) (hy : y = y) (h1 : true = true) (h2 : true = true) : en_ok l κ := sorry
