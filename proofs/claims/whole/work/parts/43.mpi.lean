-- the model: gcd by remainders, draughts' sum
theorem gcd_st {x y u t : Nat} (h : Nat.gcd x y = Nat.gcd u t) : Nat.gcd y (x % y) = Nat.gcd u t := by
  rw [← h, Nat.gcd_comm x y, Nat.gcd_rec y x, Nat.gcd_comm]
theorem dra_s {k wb : Nat → Int32} {ld te pu : Nat → Nat} {n m : Nat} {g : Nat → Int32} {x day : Int32} {w : Nat → Int32} {i dd : Nat} {pr : Int32} {w1 : Nat → Int32} (h : (pr, w1) = draF k wb ld te pu n m g x day w i dd) : draF k wb ld te pu n m g x day w (i + 1) dd = draS k wb ld te pu n m g x day dd i (pr, w1) := by
  rw [draF, it_s, ← draF, ← h]
theorem abo_s {k wb : Nat → Int32} {ld te pu : Nat → Nat} {n m : Nat} {g : Nat → Int32} {x day : Int32} {w : Nat → Int32} {c q dd : Nat} {ab pr : Int32} {w1 : Nat → Int32} (h5 : ab = aboF k wb ld te pu n m g x day w c q dd) (h : (pr, w1) = draF k wb ld te pu n m g x day w q dd) : aboF k wb ld te pu n m g x day w c q (dd + 1) = ab + (if w1 c = 0 then pr else 0) := by
  rw [aboF, it_s, ← aboF, ← h5, ← h]
