/-! Class: Row's methods at the fixed rows, by program (wip/gen/rowsw.py). -/
section MROWW
variable {G : mG} {h h0 : mH} {n k b : Nat} {Q : mR → Prop} {I : Nat → Int} {A : Nat → Nat → Int} {P : Nat → Nat} {R : Nat → Option Nat} {o : Nat → Int64}
theorem wR_1 : mRecv (wH h0 b I A P R o) (b + 1) 7 ↔ True := wc_1
theorem d79_1 : mX G 79 0 [.ref (b + 1)] [] (wH h0 b I A P R o) n k Q ↔ Q (.inl (some (.int (iI (I 1)))), wH h0 b I A P R o, n, k) := by
  have e := c79 (G := G) (n := n) (k := k) (Q := Q) (p := b + 2) (r := b + 1) (c := 256) (len := I 1) (g := A 0) (h := wH h0 b I A P R o)
  rw [← wr_1] at e
  exact e
theorem d80_1 {z : Int} (hl : 0 ≤ I 1 ∧ I 1 ≤ 256) (hz : -2147483648 ≤ z ∧ z < 2147483648) : mX G 80 0 [.ref (b + 1), .int (iI z)] [] (wH h0 b I A P R o) n k Q ↔ Q (.inl (some (.int (iI (rget (I 1) (A 0) z)))), wH h0 b I A P R o, n, k) := by
  have e := c80 (G := G) (n := n) (k := k) (Q := Q) (p := b + 2) (r := b + 1) (c := 256) (len := I 1) (g := A 0) (h := wH h0 b I A P R o) (show b + 2 ≠ b + 1 by omega) (by decide) hl hz
  rw [← wr_1] at e
  exact e
theorem d81_1 {z : Int} (hl : 0 ≤ I 1 ∧ I 1 ≤ 256) (hz : -2147483648 ≤ z ∧ z < 2147483647) : mX G 81 0 [.ref (b + 1), .int (iI z)] [] (wH h0 b I A P R o) n k Q ↔ Q (.inl (some (.int (iI (rget (I 1) (A 0) z * 256 + rget (I 1) (A 0) (z + 1))))), wH h0 b I A P R o, n, k) := by
  have e := c81 (G := G) (n := n) (k := k) (Q := Q) (p := b + 2) (r := b + 1) (c := 256) (len := I 1) (g := A 0) (h := wH h0 b I A P R o) (show b + 2 ≠ b + 1 by omega) (by decide) hl hz
  rw [← wr_1] at e
  exact e
theorem d82_1 {z : Int} (hg : ∀ j, 0 ≤ A 0 j ∧ A 0 j ≤ 255) (hl : 0 ≤ I 1 ∧ I 1 ≤ 256) (hz : -2147483648 ≤ z ∧ z < 2147483647) : mX G 82 0 [.ref (b + 1), .int (iI z), mU, mU] [] (wH h0 b I A P R o) n k Q ↔ Q (.inl (some (.int (iI (rlen (I 1) (A 0) z)))), wH h0 b I A P R o, n, k) := by
  have e := c82 (G := G) (n := n) (k := k) (Q := Q) (p := b + 2) (r := b + 1) (c := 256) (len := I 1) (g := A 0) (h := wH h0 b I A P R o) hg (show b + 2 ≠ b + 1 by omega) (by decide) hl hz
  rw [← wr_1] at e
  exact e
theorem d83_1 (hb : G.2.2.2 ≤ b) : mX G 83 0 [.ref (b + 1)] [] (wH h0 b I A P R o) n k Q ↔ Q (.inl none, wH h0 b (updI I 1 0) A P R o, n, k) := by
  have e := c83 (G := G) (n := n) (k := k) (Q := Q) (p := b + 2) (r := b + 1) (c := 256) (len := I 1) (g := A 0) (h := wH h0 b I A P R o) (by omega)
  rw [← wr_1, rw_1, upA_self] at e
  exact e
theorem d84_1 {z : Int} (hb : G.2.2.2 ≤ b) (hl : 0 ≤ I 1 ∧ I 1 ≤ 256) (hz : -2147483648 ≤ z ∧ z < 2147483648) : mX G 84 0 [.ref (b + 1), .int (iI z)] [] (wH h0 b I A P R o) n k Q ↔ if 0 ≤ z ∧ z ≤ I 1 then Q (.inl (some (.int (iI 1))), wH h0 b (updI I 1 z) A P R o, n, k) else Q (.inl (some (.int (iI 0))), wH h0 b I A P R o, n, k) := by
  have e := c84 (G := G) (n := n) (k := k) (Q := Q) (i := z) (p := b + 2) (r := b + 1) (c := 256) (len := I 1) (g := A 0) (h := wH h0 b I A P R o) (by omega) (by omega) hz
  rw [← wr_1, rw_1, upA_self] at e
  exact e
theorem d85_1 {x : Int} (hb : G.2.2.2 ≤ b) (hl : 0 ≤ I 1) (hl2 : I 1 < 256) (hx : -2147483648 ≤ x ∧ x < 2147483648) : mX G 85 0 [.ref (b + 1), .int (iI x)] [] (wH h0 b I A P R o) n k Q ↔ Q (.inl none, wH h0 b (updI I 1 (I 1 + 1)) (upA A 0 (upE (A 0) (I 1).toNat (x % 256))) P R o, n, k) := by
  have e := c85 (G := G) (n := n) (k := k) (Q := Q) (p := b + 2) (r := b + 1) (c := 256) (len := I 1) (g := A 0) (h := wH h0 b I A P R o) (show b + 2 ≠ b + 1 by omega) (show G.2.2.2 ≤ b + 1 by omega) (show G.2.2.2 ≤ b + 2 by omega) (by decide) hl hl2 hx
  rw [← wr_1, rw_1] at e
  exact e
theorem d86_1 {x : Int} (hb : G.2.2.2 ≤ b) (hl : 0 ≤ I 1) (hl2 : I 1 + 1 < 256) (hx : -2147483648 ≤ x ∧ x < 2147483648) : mX G 86 0 [.ref (b + 1), .int (iI x)] [] (wH h0 b I A P R o) n k Q ↔ Q (.inl none, wH h0 b (updI I 1 (I 1 + 2)) (upA A 0 (putL (A 0) (I 1) [x / 256 % 256, x % 256])) P R o, n, k) := by
  have e := c86 (G := G) (n := n) (k := k) (Q := Q) (p := b + 2) (r := b + 1) (c := 256) (len := I 1) (g := A 0) (h := wH h0 b I A P R o) (show b + 2 ≠ b + 1 by omega) (show G.2.2.2 ≤ b + 1 by omega) (show G.2.2.2 ≤ b + 2 by omega) (by decide) hl hl2 hx
  rw [← wr_1, rw_1] at e
  exact e
theorem d87_1 {x : Int} (hb : G.2.2.2 ≤ b) (hl : 0 ≤ I 1) (hl2 : I 1 + 3 < 256) (hx : -2147483648 ≤ x ∧ x < 2147483648) : mX G 87 0 [.ref (b + 1), .int (iI x)] [] (wH h0 b I A P R o) n k Q ↔ Q (.inl none, wH h0 b (updI I 1 (I 1 + 4)) (upA A 0 (putL (A 0) (I 1) (w4 x))) P R o, n, k) := by
  have e := c87 (G := G) (n := n) (k := k) (Q := Q) (p := b + 2) (r := b + 1) (c := 256) (len := I 1) (g := A 0) (h := wH h0 b I A P R o) (show b + 2 ≠ b + 1 by omega) (show G.2.2.2 ≤ b + 1 by omega) (show G.2.2.2 ≤ b + 2 by omega) (by decide) hl hl2 hx
  rw [← wr_1, rw_1] at e
  exact e
theorem d88_1 {x : Int} (hb : G.2.2.2 ≤ b) (hl : 0 ≤ I 1) (hl2 : I 1 + 1 < 256) (hx : -2147483648 ≤ x ∧ x < 2147483648) : mX G 88 0 [.ref (b + 1), .int (iI x)] [] (wH h0 b I A P R o) n k Q ↔ if x < 128 then Q (.inl none, wH h0 b (updI I 1 (I 1 + 1)) (upA A 0 (upE (A 0) (I 1).toNat (x % 256))) P R o, n, k) else Q (.inl none, wH h0 b (updI I 1 (I 1 + 2)) (upA A 0 (putL (A 0) (I 1) [129, x % 256])) P R o, n, k) := by
  have e := c88 (G := G) (n := n) (k := k) (Q := Q) (p := b + 2) (r := b + 1) (c := 256) (len := I 1) (g := A 0) (h := wH h0 b I A P R o) (show b + 2 ≠ b + 1 by omega) (show G.2.2.2 ≤ b + 1 by omega) (show G.2.2.2 ≤ b + 2 by omega) (by decide) hl hl2 hx
  rw [← wr_1, rw_1, rw_1] at e
  exact e
theorem wR_4 : mRecv (wH h0 b I A P R o) (b + 4) 7 ↔ True := wc_4
theorem d79_4 : mX G 79 0 [.ref (b + 4)] [] (wH h0 b I A P R o) n k Q ↔ Q (.inl (some (.int (iI (I 7)))), wH h0 b I A P R o, n, k) := by
  have e := c79 (G := G) (n := n) (k := k) (Q := Q) (p := b + 5) (r := b + 4) (c := 255) (len := I 7) (g := A 1) (h := wH h0 b I A P R o)
  rw [← wr_4] at e
  exact e
theorem d80_4 {z : Int} (hl : 0 ≤ I 7 ∧ I 7 ≤ 255) (hz : -2147483648 ≤ z ∧ z < 2147483648) : mX G 80 0 [.ref (b + 4), .int (iI z)] [] (wH h0 b I A P R o) n k Q ↔ Q (.inl (some (.int (iI (rget (I 7) (A 1) z)))), wH h0 b I A P R o, n, k) := by
  have e := c80 (G := G) (n := n) (k := k) (Q := Q) (p := b + 5) (r := b + 4) (c := 255) (len := I 7) (g := A 1) (h := wH h0 b I A P R o) (show b + 5 ≠ b + 4 by omega) (by decide) hl hz
  rw [← wr_4] at e
  exact e
theorem d81_4 {z : Int} (hl : 0 ≤ I 7 ∧ I 7 ≤ 255) (hz : -2147483648 ≤ z ∧ z < 2147483647) : mX G 81 0 [.ref (b + 4), .int (iI z)] [] (wH h0 b I A P R o) n k Q ↔ Q (.inl (some (.int (iI (rget (I 7) (A 1) z * 256 + rget (I 7) (A 1) (z + 1))))), wH h0 b I A P R o, n, k) := by
  have e := c81 (G := G) (n := n) (k := k) (Q := Q) (p := b + 5) (r := b + 4) (c := 255) (len := I 7) (g := A 1) (h := wH h0 b I A P R o) (show b + 5 ≠ b + 4 by omega) (by decide) hl hz
  rw [← wr_4] at e
  exact e
theorem d82_4 {z : Int} (hg : ∀ j, 0 ≤ A 1 j ∧ A 1 j ≤ 255) (hl : 0 ≤ I 7 ∧ I 7 ≤ 255) (hz : -2147483648 ≤ z ∧ z < 2147483647) : mX G 82 0 [.ref (b + 4), .int (iI z), mU, mU] [] (wH h0 b I A P R o) n k Q ↔ Q (.inl (some (.int (iI (rlen (I 7) (A 1) z)))), wH h0 b I A P R o, n, k) := by
  have e := c82 (G := G) (n := n) (k := k) (Q := Q) (p := b + 5) (r := b + 4) (c := 255) (len := I 7) (g := A 1) (h := wH h0 b I A P R o) hg (show b + 5 ≠ b + 4 by omega) (by decide) hl hz
  rw [← wr_4] at e
  exact e
theorem d83_4 (hb : G.2.2.2 ≤ b) : mX G 83 0 [.ref (b + 4)] [] (wH h0 b I A P R o) n k Q ↔ Q (.inl none, wH h0 b (updI I 7 0) A P R o, n, k) := by
  have e := c83 (G := G) (n := n) (k := k) (Q := Q) (p := b + 5) (r := b + 4) (c := 255) (len := I 7) (g := A 1) (h := wH h0 b I A P R o) (by omega)
  rw [← wr_4, rw_4, upA_self] at e
  exact e
theorem d84_4 {z : Int} (hb : G.2.2.2 ≤ b) (hl : 0 ≤ I 7 ∧ I 7 ≤ 255) (hz : -2147483648 ≤ z ∧ z < 2147483648) : mX G 84 0 [.ref (b + 4), .int (iI z)] [] (wH h0 b I A P R o) n k Q ↔ if 0 ≤ z ∧ z ≤ I 7 then Q (.inl (some (.int (iI 1))), wH h0 b (updI I 7 z) A P R o, n, k) else Q (.inl (some (.int (iI 0))), wH h0 b I A P R o, n, k) := by
  have e := c84 (G := G) (n := n) (k := k) (Q := Q) (i := z) (p := b + 5) (r := b + 4) (c := 255) (len := I 7) (g := A 1) (h := wH h0 b I A P R o) (by omega) (by omega) hz
  rw [← wr_4, rw_4, upA_self] at e
  exact e
theorem d85_4 {x : Int} (hb : G.2.2.2 ≤ b) (hl : 0 ≤ I 7) (hl2 : I 7 < 255) (hx : -2147483648 ≤ x ∧ x < 2147483648) : mX G 85 0 [.ref (b + 4), .int (iI x)] [] (wH h0 b I A P R o) n k Q ↔ Q (.inl none, wH h0 b (updI I 7 (I 7 + 1)) (upA A 1 (upE (A 1) (I 7).toNat (x % 256))) P R o, n, k) := by
  have e := c85 (G := G) (n := n) (k := k) (Q := Q) (p := b + 5) (r := b + 4) (c := 255) (len := I 7) (g := A 1) (h := wH h0 b I A P R o) (show b + 5 ≠ b + 4 by omega) (show G.2.2.2 ≤ b + 4 by omega) (show G.2.2.2 ≤ b + 5 by omega) (by decide) hl hl2 hx
  rw [← wr_4, rw_4] at e
  exact e
theorem d86_4 {x : Int} (hb : G.2.2.2 ≤ b) (hl : 0 ≤ I 7) (hl2 : I 7 + 1 < 255) (hx : -2147483648 ≤ x ∧ x < 2147483648) : mX G 86 0 [.ref (b + 4), .int (iI x)] [] (wH h0 b I A P R o) n k Q ↔ Q (.inl none, wH h0 b (updI I 7 (I 7 + 2)) (upA A 1 (putL (A 1) (I 7) [x / 256 % 256, x % 256])) P R o, n, k) := by
  have e := c86 (G := G) (n := n) (k := k) (Q := Q) (p := b + 5) (r := b + 4) (c := 255) (len := I 7) (g := A 1) (h := wH h0 b I A P R o) (show b + 5 ≠ b + 4 by omega) (show G.2.2.2 ≤ b + 4 by omega) (show G.2.2.2 ≤ b + 5 by omega) (by decide) hl hl2 hx
  rw [← wr_4, rw_4] at e
  exact e
theorem d87_4 {x : Int} (hb : G.2.2.2 ≤ b) (hl : 0 ≤ I 7) (hl2 : I 7 + 3 < 255) (hx : -2147483648 ≤ x ∧ x < 2147483648) : mX G 87 0 [.ref (b + 4), .int (iI x)] [] (wH h0 b I A P R o) n k Q ↔ Q (.inl none, wH h0 b (updI I 7 (I 7 + 4)) (upA A 1 (putL (A 1) (I 7) (w4 x))) P R o, n, k) := by
  have e := c87 (G := G) (n := n) (k := k) (Q := Q) (p := b + 5) (r := b + 4) (c := 255) (len := I 7) (g := A 1) (h := wH h0 b I A P R o) (show b + 5 ≠ b + 4 by omega) (show G.2.2.2 ≤ b + 4 by omega) (show G.2.2.2 ≤ b + 5 by omega) (by decide) hl hl2 hx
  rw [← wr_4, rw_4] at e
  exact e
theorem d88_4 {x : Int} (hb : G.2.2.2 ≤ b) (hl : 0 ≤ I 7) (hl2 : I 7 + 1 < 255) (hx : -2147483648 ≤ x ∧ x < 2147483648) : mX G 88 0 [.ref (b + 4), .int (iI x)] [] (wH h0 b I A P R o) n k Q ↔ if x < 128 then Q (.inl none, wH h0 b (updI I 7 (I 7 + 1)) (upA A 1 (upE (A 1) (I 7).toNat (x % 256))) P R o, n, k) else Q (.inl none, wH h0 b (updI I 7 (I 7 + 2)) (upA A 1 (putL (A 1) (I 7) [129, x % 256])) P R o, n, k) := by
  have e := c88 (G := G) (n := n) (k := k) (Q := Q) (p := b + 5) (r := b + 4) (c := 255) (len := I 7) (g := A 1) (h := wH h0 b I A P R o) (show b + 5 ≠ b + 4 by omega) (show G.2.2.2 ≤ b + 4 by omega) (show G.2.2.2 ≤ b + 5 by omega) (by decide) hl hl2 hx
  rw [← wr_4, rw_4, rw_4] at e
  exact e
theorem wR_12 : mRecv (wH h0 b I A P R o) (b + 12) 7 ↔ True := wc_12
theorem d79_12 : mX G 79 0 [.ref (b + 12)] [] (wH h0 b I A P R o) n k Q ↔ Q (.inl (some (.int (iI (I 14)))), wH h0 b I A P R o, n, k) := by
  have e := c79 (G := G) (n := n) (k := k) (Q := Q) (p := b + 13) (r := b + 12) (c := 8) (len := I 14) (g := A 2) (h := wH h0 b I A P R o)
  rw [← wr_12] at e
  exact e
theorem d80_12 {z : Int} (hl : 0 ≤ I 14 ∧ I 14 ≤ 8) (hz : -2147483648 ≤ z ∧ z < 2147483648) : mX G 80 0 [.ref (b + 12), .int (iI z)] [] (wH h0 b I A P R o) n k Q ↔ Q (.inl (some (.int (iI (rget (I 14) (A 2) z)))), wH h0 b I A P R o, n, k) := by
  have e := c80 (G := G) (n := n) (k := k) (Q := Q) (p := b + 13) (r := b + 12) (c := 8) (len := I 14) (g := A 2) (h := wH h0 b I A P R o) (show b + 13 ≠ b + 12 by omega) (by decide) hl hz
  rw [← wr_12] at e
  exact e
theorem d81_12 {z : Int} (hl : 0 ≤ I 14 ∧ I 14 ≤ 8) (hz : -2147483648 ≤ z ∧ z < 2147483647) : mX G 81 0 [.ref (b + 12), .int (iI z)] [] (wH h0 b I A P R o) n k Q ↔ Q (.inl (some (.int (iI (rget (I 14) (A 2) z * 256 + rget (I 14) (A 2) (z + 1))))), wH h0 b I A P R o, n, k) := by
  have e := c81 (G := G) (n := n) (k := k) (Q := Q) (p := b + 13) (r := b + 12) (c := 8) (len := I 14) (g := A 2) (h := wH h0 b I A P R o) (show b + 13 ≠ b + 12 by omega) (by decide) hl hz
  rw [← wr_12] at e
  exact e
theorem d82_12 {z : Int} (hg : ∀ j, 0 ≤ A 2 j ∧ A 2 j ≤ 255) (hl : 0 ≤ I 14 ∧ I 14 ≤ 8) (hz : -2147483648 ≤ z ∧ z < 2147483647) : mX G 82 0 [.ref (b + 12), .int (iI z), mU, mU] [] (wH h0 b I A P R o) n k Q ↔ Q (.inl (some (.int (iI (rlen (I 14) (A 2) z)))), wH h0 b I A P R o, n, k) := by
  have e := c82 (G := G) (n := n) (k := k) (Q := Q) (p := b + 13) (r := b + 12) (c := 8) (len := I 14) (g := A 2) (h := wH h0 b I A P R o) hg (show b + 13 ≠ b + 12 by omega) (by decide) hl hz
  rw [← wr_12] at e
  exact e
theorem d83_12 (hb : G.2.2.2 ≤ b) : mX G 83 0 [.ref (b + 12)] [] (wH h0 b I A P R o) n k Q ↔ Q (.inl none, wH h0 b (updI I 14 0) A P R o, n, k) := by
  have e := c83 (G := G) (n := n) (k := k) (Q := Q) (p := b + 13) (r := b + 12) (c := 8) (len := I 14) (g := A 2) (h := wH h0 b I A P R o) (by omega)
  rw [← wr_12, rw_12, upA_self] at e
  exact e
theorem d84_12 {z : Int} (hb : G.2.2.2 ≤ b) (hl : 0 ≤ I 14 ∧ I 14 ≤ 8) (hz : -2147483648 ≤ z ∧ z < 2147483648) : mX G 84 0 [.ref (b + 12), .int (iI z)] [] (wH h0 b I A P R o) n k Q ↔ if 0 ≤ z ∧ z ≤ I 14 then Q (.inl (some (.int (iI 1))), wH h0 b (updI I 14 z) A P R o, n, k) else Q (.inl (some (.int (iI 0))), wH h0 b I A P R o, n, k) := by
  have e := c84 (G := G) (n := n) (k := k) (Q := Q) (i := z) (p := b + 13) (r := b + 12) (c := 8) (len := I 14) (g := A 2) (h := wH h0 b I A P R o) (by omega) (by omega) hz
  rw [← wr_12, rw_12, upA_self] at e
  exact e
theorem d85_12 {x : Int} (hb : G.2.2.2 ≤ b) (hl : 0 ≤ I 14) (hl2 : I 14 < 8) (hx : -2147483648 ≤ x ∧ x < 2147483648) : mX G 85 0 [.ref (b + 12), .int (iI x)] [] (wH h0 b I A P R o) n k Q ↔ Q (.inl none, wH h0 b (updI I 14 (I 14 + 1)) (upA A 2 (upE (A 2) (I 14).toNat (x % 256))) P R o, n, k) := by
  have e := c85 (G := G) (n := n) (k := k) (Q := Q) (p := b + 13) (r := b + 12) (c := 8) (len := I 14) (g := A 2) (h := wH h0 b I A P R o) (show b + 13 ≠ b + 12 by omega) (show G.2.2.2 ≤ b + 12 by omega) (show G.2.2.2 ≤ b + 13 by omega) (by decide) hl hl2 hx
  rw [← wr_12, rw_12] at e
  exact e
theorem d86_12 {x : Int} (hb : G.2.2.2 ≤ b) (hl : 0 ≤ I 14) (hl2 : I 14 + 1 < 8) (hx : -2147483648 ≤ x ∧ x < 2147483648) : mX G 86 0 [.ref (b + 12), .int (iI x)] [] (wH h0 b I A P R o) n k Q ↔ Q (.inl none, wH h0 b (updI I 14 (I 14 + 2)) (upA A 2 (putL (A 2) (I 14) [x / 256 % 256, x % 256])) P R o, n, k) := by
  have e := c86 (G := G) (n := n) (k := k) (Q := Q) (p := b + 13) (r := b + 12) (c := 8) (len := I 14) (g := A 2) (h := wH h0 b I A P R o) (show b + 13 ≠ b + 12 by omega) (show G.2.2.2 ≤ b + 12 by omega) (show G.2.2.2 ≤ b + 13 by omega) (by decide) hl hl2 hx
  rw [← wr_12, rw_12] at e
  exact e
theorem d87_12 {x : Int} (hb : G.2.2.2 ≤ b) (hl : 0 ≤ I 14) (hl2 : I 14 + 3 < 8) (hx : -2147483648 ≤ x ∧ x < 2147483648) : mX G 87 0 [.ref (b + 12), .int (iI x)] [] (wH h0 b I A P R o) n k Q ↔ Q (.inl none, wH h0 b (updI I 14 (I 14 + 4)) (upA A 2 (putL (A 2) (I 14) (w4 x))) P R o, n, k) := by
  have e := c87 (G := G) (n := n) (k := k) (Q := Q) (p := b + 13) (r := b + 12) (c := 8) (len := I 14) (g := A 2) (h := wH h0 b I A P R o) (show b + 13 ≠ b + 12 by omega) (show G.2.2.2 ≤ b + 12 by omega) (show G.2.2.2 ≤ b + 13 by omega) (by decide) hl hl2 hx
  rw [← wr_12, rw_12] at e
  exact e
theorem d88_12 {x : Int} (hb : G.2.2.2 ≤ b) (hl : 0 ≤ I 14) (hl2 : I 14 + 1 < 8) (hx : -2147483648 ≤ x ∧ x < 2147483648) : mX G 88 0 [.ref (b + 12), .int (iI x)] [] (wH h0 b I A P R o) n k Q ↔ if x < 128 then Q (.inl none, wH h0 b (updI I 14 (I 14 + 1)) (upA A 2 (upE (A 2) (I 14).toNat (x % 256))) P R o, n, k) else Q (.inl none, wH h0 b (updI I 14 (I 14 + 2)) (upA A 2 (putL (A 2) (I 14) [129, x % 256])) P R o, n, k) := by
  have e := c88 (G := G) (n := n) (k := k) (Q := Q) (p := b + 13) (r := b + 12) (c := 8) (len := I 14) (g := A 2) (h := wH h0 b I A P R o) (show b + 13 ≠ b + 12 by omega) (show G.2.2.2 ≤ b + 12 by omega) (show G.2.2.2 ≤ b + 13 by omega) (by decide) hl hl2 hx
  rw [← wr_12, rw_12, rw_12] at e
  exact e
theorem wR_14 : mRecv (wH h0 b I A P R o) (b + 14) 7 ↔ True := wc_14
theorem d79_14 : mX G 79 0 [.ref (b + 14)] [] (wH h0 b I A P R o) n k Q ↔ Q (.inl (some (.int (iI (I 15)))), wH h0 b I A P R o, n, k) := by
  have e := c79 (G := G) (n := n) (k := k) (Q := Q) (p := b + 15) (r := b + 14) (c := 8) (len := I 15) (g := A 3) (h := wH h0 b I A P R o)
  rw [← wr_14] at e
  exact e
theorem d80_14 {z : Int} (hl : 0 ≤ I 15 ∧ I 15 ≤ 8) (hz : -2147483648 ≤ z ∧ z < 2147483648) : mX G 80 0 [.ref (b + 14), .int (iI z)] [] (wH h0 b I A P R o) n k Q ↔ Q (.inl (some (.int (iI (rget (I 15) (A 3) z)))), wH h0 b I A P R o, n, k) := by
  have e := c80 (G := G) (n := n) (k := k) (Q := Q) (p := b + 15) (r := b + 14) (c := 8) (len := I 15) (g := A 3) (h := wH h0 b I A P R o) (show b + 15 ≠ b + 14 by omega) (by decide) hl hz
  rw [← wr_14] at e
  exact e
theorem d81_14 {z : Int} (hl : 0 ≤ I 15 ∧ I 15 ≤ 8) (hz : -2147483648 ≤ z ∧ z < 2147483647) : mX G 81 0 [.ref (b + 14), .int (iI z)] [] (wH h0 b I A P R o) n k Q ↔ Q (.inl (some (.int (iI (rget (I 15) (A 3) z * 256 + rget (I 15) (A 3) (z + 1))))), wH h0 b I A P R o, n, k) := by
  have e := c81 (G := G) (n := n) (k := k) (Q := Q) (p := b + 15) (r := b + 14) (c := 8) (len := I 15) (g := A 3) (h := wH h0 b I A P R o) (show b + 15 ≠ b + 14 by omega) (by decide) hl hz
  rw [← wr_14] at e
  exact e
theorem d82_14 {z : Int} (hg : ∀ j, 0 ≤ A 3 j ∧ A 3 j ≤ 255) (hl : 0 ≤ I 15 ∧ I 15 ≤ 8) (hz : -2147483648 ≤ z ∧ z < 2147483647) : mX G 82 0 [.ref (b + 14), .int (iI z), mU, mU] [] (wH h0 b I A P R o) n k Q ↔ Q (.inl (some (.int (iI (rlen (I 15) (A 3) z)))), wH h0 b I A P R o, n, k) := by
  have e := c82 (G := G) (n := n) (k := k) (Q := Q) (p := b + 15) (r := b + 14) (c := 8) (len := I 15) (g := A 3) (h := wH h0 b I A P R o) hg (show b + 15 ≠ b + 14 by omega) (by decide) hl hz
  rw [← wr_14] at e
  exact e
theorem d83_14 (hb : G.2.2.2 ≤ b) : mX G 83 0 [.ref (b + 14)] [] (wH h0 b I A P R o) n k Q ↔ Q (.inl none, wH h0 b (updI I 15 0) A P R o, n, k) := by
  have e := c83 (G := G) (n := n) (k := k) (Q := Q) (p := b + 15) (r := b + 14) (c := 8) (len := I 15) (g := A 3) (h := wH h0 b I A P R o) (by omega)
  rw [← wr_14, rw_14, upA_self] at e
  exact e
theorem d84_14 {z : Int} (hb : G.2.2.2 ≤ b) (hl : 0 ≤ I 15 ∧ I 15 ≤ 8) (hz : -2147483648 ≤ z ∧ z < 2147483648) : mX G 84 0 [.ref (b + 14), .int (iI z)] [] (wH h0 b I A P R o) n k Q ↔ if 0 ≤ z ∧ z ≤ I 15 then Q (.inl (some (.int (iI 1))), wH h0 b (updI I 15 z) A P R o, n, k) else Q (.inl (some (.int (iI 0))), wH h0 b I A P R o, n, k) := by
  have e := c84 (G := G) (n := n) (k := k) (Q := Q) (i := z) (p := b + 15) (r := b + 14) (c := 8) (len := I 15) (g := A 3) (h := wH h0 b I A P R o) (by omega) (by omega) hz
  rw [← wr_14, rw_14, upA_self] at e
  exact e
theorem d85_14 {x : Int} (hb : G.2.2.2 ≤ b) (hl : 0 ≤ I 15) (hl2 : I 15 < 8) (hx : -2147483648 ≤ x ∧ x < 2147483648) : mX G 85 0 [.ref (b + 14), .int (iI x)] [] (wH h0 b I A P R o) n k Q ↔ Q (.inl none, wH h0 b (updI I 15 (I 15 + 1)) (upA A 3 (upE (A 3) (I 15).toNat (x % 256))) P R o, n, k) := by
  have e := c85 (G := G) (n := n) (k := k) (Q := Q) (p := b + 15) (r := b + 14) (c := 8) (len := I 15) (g := A 3) (h := wH h0 b I A P R o) (show b + 15 ≠ b + 14 by omega) (show G.2.2.2 ≤ b + 14 by omega) (show G.2.2.2 ≤ b + 15 by omega) (by decide) hl hl2 hx
  rw [← wr_14, rw_14] at e
  exact e
theorem d86_14 {x : Int} (hb : G.2.2.2 ≤ b) (hl : 0 ≤ I 15) (hl2 : I 15 + 1 < 8) (hx : -2147483648 ≤ x ∧ x < 2147483648) : mX G 86 0 [.ref (b + 14), .int (iI x)] [] (wH h0 b I A P R o) n k Q ↔ Q (.inl none, wH h0 b (updI I 15 (I 15 + 2)) (upA A 3 (putL (A 3) (I 15) [x / 256 % 256, x % 256])) P R o, n, k) := by
  have e := c86 (G := G) (n := n) (k := k) (Q := Q) (p := b + 15) (r := b + 14) (c := 8) (len := I 15) (g := A 3) (h := wH h0 b I A P R o) (show b + 15 ≠ b + 14 by omega) (show G.2.2.2 ≤ b + 14 by omega) (show G.2.2.2 ≤ b + 15 by omega) (by decide) hl hl2 hx
  rw [← wr_14, rw_14] at e
  exact e
theorem d87_14 {x : Int} (hb : G.2.2.2 ≤ b) (hl : 0 ≤ I 15) (hl2 : I 15 + 3 < 8) (hx : -2147483648 ≤ x ∧ x < 2147483648) : mX G 87 0 [.ref (b + 14), .int (iI x)] [] (wH h0 b I A P R o) n k Q ↔ Q (.inl none, wH h0 b (updI I 15 (I 15 + 4)) (upA A 3 (putL (A 3) (I 15) (w4 x))) P R o, n, k) := by
  have e := c87 (G := G) (n := n) (k := k) (Q := Q) (p := b + 15) (r := b + 14) (c := 8) (len := I 15) (g := A 3) (h := wH h0 b I A P R o) (show b + 15 ≠ b + 14 by omega) (show G.2.2.2 ≤ b + 14 by omega) (show G.2.2.2 ≤ b + 15 by omega) (by decide) hl hl2 hx
  rw [← wr_14, rw_14] at e
  exact e
theorem d88_14 {x : Int} (hb : G.2.2.2 ≤ b) (hl : 0 ≤ I 15) (hl2 : I 15 + 1 < 8) (hx : -2147483648 ≤ x ∧ x < 2147483648) : mX G 88 0 [.ref (b + 14), .int (iI x)] [] (wH h0 b I A P R o) n k Q ↔ if x < 128 then Q (.inl none, wH h0 b (updI I 15 (I 15 + 1)) (upA A 3 (upE (A 3) (I 15).toNat (x % 256))) P R o, n, k) else Q (.inl none, wH h0 b (updI I 15 (I 15 + 2)) (upA A 3 (putL (A 3) (I 15) [129, x % 256])) P R o, n, k) := by
  have e := c88 (G := G) (n := n) (k := k) (Q := Q) (p := b + 15) (r := b + 14) (c := 8) (len := I 15) (g := A 3) (h := wH h0 b I A P R o) (show b + 15 ≠ b + 14 by omega) (show G.2.2.2 ≤ b + 14 by omega) (show G.2.2.2 ≤ b + 15 by omega) (by decide) hl hl2 hx
  rw [← wr_14, rw_14, rw_14] at e
  exact e
theorem wR_29 : mRecv (wH h0 b I A P R o) (b + 29) 7 ↔ True := wc_29
theorem d79_29 : mX G 79 0 [.ref (b + 29)] [] (wH h0 b I A P R o) n k Q ↔ Q (.inl (some (.int (iI (I 23)))), wH h0 b I A P R o, n, k) := by
  have e := c79 (G := G) (n := n) (k := k) (Q := Q) (p := b + 30) (r := b + 29) (c := 255) (len := I 23) (g := A 6) (h := wH h0 b I A P R o)
  rw [← wr_29] at e
  exact e
theorem d80_29 {z : Int} (hl : 0 ≤ I 23 ∧ I 23 ≤ 255) (hz : -2147483648 ≤ z ∧ z < 2147483648) : mX G 80 0 [.ref (b + 29), .int (iI z)] [] (wH h0 b I A P R o) n k Q ↔ Q (.inl (some (.int (iI (rget (I 23) (A 6) z)))), wH h0 b I A P R o, n, k) := by
  have e := c80 (G := G) (n := n) (k := k) (Q := Q) (p := b + 30) (r := b + 29) (c := 255) (len := I 23) (g := A 6) (h := wH h0 b I A P R o) (show b + 30 ≠ b + 29 by omega) (by decide) hl hz
  rw [← wr_29] at e
  exact e
theorem d81_29 {z : Int} (hl : 0 ≤ I 23 ∧ I 23 ≤ 255) (hz : -2147483648 ≤ z ∧ z < 2147483647) : mX G 81 0 [.ref (b + 29), .int (iI z)] [] (wH h0 b I A P R o) n k Q ↔ Q (.inl (some (.int (iI (rget (I 23) (A 6) z * 256 + rget (I 23) (A 6) (z + 1))))), wH h0 b I A P R o, n, k) := by
  have e := c81 (G := G) (n := n) (k := k) (Q := Q) (p := b + 30) (r := b + 29) (c := 255) (len := I 23) (g := A 6) (h := wH h0 b I A P R o) (show b + 30 ≠ b + 29 by omega) (by decide) hl hz
  rw [← wr_29] at e
  exact e
theorem d82_29 {z : Int} (hg : ∀ j, 0 ≤ A 6 j ∧ A 6 j ≤ 255) (hl : 0 ≤ I 23 ∧ I 23 ≤ 255) (hz : -2147483648 ≤ z ∧ z < 2147483647) : mX G 82 0 [.ref (b + 29), .int (iI z), mU, mU] [] (wH h0 b I A P R o) n k Q ↔ Q (.inl (some (.int (iI (rlen (I 23) (A 6) z)))), wH h0 b I A P R o, n, k) := by
  have e := c82 (G := G) (n := n) (k := k) (Q := Q) (p := b + 30) (r := b + 29) (c := 255) (len := I 23) (g := A 6) (h := wH h0 b I A P R o) hg (show b + 30 ≠ b + 29 by omega) (by decide) hl hz
  rw [← wr_29] at e
  exact e
theorem d83_29 (hb : G.2.2.2 ≤ b) : mX G 83 0 [.ref (b + 29)] [] (wH h0 b I A P R o) n k Q ↔ Q (.inl none, wH h0 b (updI I 23 0) A P R o, n, k) := by
  have e := c83 (G := G) (n := n) (k := k) (Q := Q) (p := b + 30) (r := b + 29) (c := 255) (len := I 23) (g := A 6) (h := wH h0 b I A P R o) (by omega)
  rw [← wr_29, rw_29, upA_self] at e
  exact e
theorem d84_29 {z : Int} (hb : G.2.2.2 ≤ b) (hl : 0 ≤ I 23 ∧ I 23 ≤ 255) (hz : -2147483648 ≤ z ∧ z < 2147483648) : mX G 84 0 [.ref (b + 29), .int (iI z)] [] (wH h0 b I A P R o) n k Q ↔ if 0 ≤ z ∧ z ≤ I 23 then Q (.inl (some (.int (iI 1))), wH h0 b (updI I 23 z) A P R o, n, k) else Q (.inl (some (.int (iI 0))), wH h0 b I A P R o, n, k) := by
  have e := c84 (G := G) (n := n) (k := k) (Q := Q) (i := z) (p := b + 30) (r := b + 29) (c := 255) (len := I 23) (g := A 6) (h := wH h0 b I A P R o) (by omega) (by omega) hz
  rw [← wr_29, rw_29, upA_self] at e
  exact e
theorem d85_29 {x : Int} (hb : G.2.2.2 ≤ b) (hl : 0 ≤ I 23) (hl2 : I 23 < 255) (hx : -2147483648 ≤ x ∧ x < 2147483648) : mX G 85 0 [.ref (b + 29), .int (iI x)] [] (wH h0 b I A P R o) n k Q ↔ Q (.inl none, wH h0 b (updI I 23 (I 23 + 1)) (upA A 6 (upE (A 6) (I 23).toNat (x % 256))) P R o, n, k) := by
  have e := c85 (G := G) (n := n) (k := k) (Q := Q) (p := b + 30) (r := b + 29) (c := 255) (len := I 23) (g := A 6) (h := wH h0 b I A P R o) (show b + 30 ≠ b + 29 by omega) (show G.2.2.2 ≤ b + 29 by omega) (show G.2.2.2 ≤ b + 30 by omega) (by decide) hl hl2 hx
  rw [← wr_29, rw_29] at e
  exact e
theorem d86_29 {x : Int} (hb : G.2.2.2 ≤ b) (hl : 0 ≤ I 23) (hl2 : I 23 + 1 < 255) (hx : -2147483648 ≤ x ∧ x < 2147483648) : mX G 86 0 [.ref (b + 29), .int (iI x)] [] (wH h0 b I A P R o) n k Q ↔ Q (.inl none, wH h0 b (updI I 23 (I 23 + 2)) (upA A 6 (putL (A 6) (I 23) [x / 256 % 256, x % 256])) P R o, n, k) := by
  have e := c86 (G := G) (n := n) (k := k) (Q := Q) (p := b + 30) (r := b + 29) (c := 255) (len := I 23) (g := A 6) (h := wH h0 b I A P R o) (show b + 30 ≠ b + 29 by omega) (show G.2.2.2 ≤ b + 29 by omega) (show G.2.2.2 ≤ b + 30 by omega) (by decide) hl hl2 hx
  rw [← wr_29, rw_29] at e
  exact e
theorem d87_29 {x : Int} (hb : G.2.2.2 ≤ b) (hl : 0 ≤ I 23) (hl2 : I 23 + 3 < 255) (hx : -2147483648 ≤ x ∧ x < 2147483648) : mX G 87 0 [.ref (b + 29), .int (iI x)] [] (wH h0 b I A P R o) n k Q ↔ Q (.inl none, wH h0 b (updI I 23 (I 23 + 4)) (upA A 6 (putL (A 6) (I 23) (w4 x))) P R o, n, k) := by
  have e := c87 (G := G) (n := n) (k := k) (Q := Q) (p := b + 30) (r := b + 29) (c := 255) (len := I 23) (g := A 6) (h := wH h0 b I A P R o) (show b + 30 ≠ b + 29 by omega) (show G.2.2.2 ≤ b + 29 by omega) (show G.2.2.2 ≤ b + 30 by omega) (by decide) hl hl2 hx
  rw [← wr_29, rw_29] at e
  exact e
theorem d88_29 {x : Int} (hb : G.2.2.2 ≤ b) (hl : 0 ≤ I 23) (hl2 : I 23 + 1 < 255) (hx : -2147483648 ≤ x ∧ x < 2147483648) : mX G 88 0 [.ref (b + 29), .int (iI x)] [] (wH h0 b I A P R o) n k Q ↔ if x < 128 then Q (.inl none, wH h0 b (updI I 23 (I 23 + 1)) (upA A 6 (upE (A 6) (I 23).toNat (x % 256))) P R o, n, k) else Q (.inl none, wH h0 b (updI I 23 (I 23 + 2)) (upA A 6 (putL (A 6) (I 23) [129, x % 256])) P R o, n, k) := by
  have e := c88 (G := G) (n := n) (k := k) (Q := Q) (p := b + 30) (r := b + 29) (c := 255) (len := I 23) (g := A 6) (h := wH h0 b I A P R o) (show b + 30 ≠ b + 29 by omega) (show G.2.2.2 ≤ b + 29 by omega) (show G.2.2.2 ≤ b + 30 by omega) (by decide) hl hl2 hx
  rw [← wr_29, rw_29, rw_29] at e
  exact e
theorem wR_31 : mRecv (wH h0 b I A P R o) (b + 31) 7 ↔ True := wc_31
theorem d79_31 : mX G 79 0 [.ref (b + 31)] [] (wH h0 b I A P R o) n k Q ↔ Q (.inl (some (.int (iI (I 24)))), wH h0 b I A P R o, n, k) := by
  have e := c79 (G := G) (n := n) (k := k) (Q := Q) (p := b + 32) (r := b + 31) (c := 255) (len := I 24) (g := A 7) (h := wH h0 b I A P R o)
  rw [← wr_31] at e
  exact e
theorem d80_31 {z : Int} (hl : 0 ≤ I 24 ∧ I 24 ≤ 255) (hz : -2147483648 ≤ z ∧ z < 2147483648) : mX G 80 0 [.ref (b + 31), .int (iI z)] [] (wH h0 b I A P R o) n k Q ↔ Q (.inl (some (.int (iI (rget (I 24) (A 7) z)))), wH h0 b I A P R o, n, k) := by
  have e := c80 (G := G) (n := n) (k := k) (Q := Q) (p := b + 32) (r := b + 31) (c := 255) (len := I 24) (g := A 7) (h := wH h0 b I A P R o) (show b + 32 ≠ b + 31 by omega) (by decide) hl hz
  rw [← wr_31] at e
  exact e
theorem d81_31 {z : Int} (hl : 0 ≤ I 24 ∧ I 24 ≤ 255) (hz : -2147483648 ≤ z ∧ z < 2147483647) : mX G 81 0 [.ref (b + 31), .int (iI z)] [] (wH h0 b I A P R o) n k Q ↔ Q (.inl (some (.int (iI (rget (I 24) (A 7) z * 256 + rget (I 24) (A 7) (z + 1))))), wH h0 b I A P R o, n, k) := by
  have e := c81 (G := G) (n := n) (k := k) (Q := Q) (p := b + 32) (r := b + 31) (c := 255) (len := I 24) (g := A 7) (h := wH h0 b I A P R o) (show b + 32 ≠ b + 31 by omega) (by decide) hl hz
  rw [← wr_31] at e
  exact e
theorem d82_31 {z : Int} (hg : ∀ j, 0 ≤ A 7 j ∧ A 7 j ≤ 255) (hl : 0 ≤ I 24 ∧ I 24 ≤ 255) (hz : -2147483648 ≤ z ∧ z < 2147483647) : mX G 82 0 [.ref (b + 31), .int (iI z), mU, mU] [] (wH h0 b I A P R o) n k Q ↔ Q (.inl (some (.int (iI (rlen (I 24) (A 7) z)))), wH h0 b I A P R o, n, k) := by
  have e := c82 (G := G) (n := n) (k := k) (Q := Q) (p := b + 32) (r := b + 31) (c := 255) (len := I 24) (g := A 7) (h := wH h0 b I A P R o) hg (show b + 32 ≠ b + 31 by omega) (by decide) hl hz
  rw [← wr_31] at e
  exact e
theorem d83_31 (hb : G.2.2.2 ≤ b) : mX G 83 0 [.ref (b + 31)] [] (wH h0 b I A P R o) n k Q ↔ Q (.inl none, wH h0 b (updI I 24 0) A P R o, n, k) := by
  have e := c83 (G := G) (n := n) (k := k) (Q := Q) (p := b + 32) (r := b + 31) (c := 255) (len := I 24) (g := A 7) (h := wH h0 b I A P R o) (by omega)
  rw [← wr_31, rw_31, upA_self] at e
  exact e
theorem d84_31 {z : Int} (hb : G.2.2.2 ≤ b) (hl : 0 ≤ I 24 ∧ I 24 ≤ 255) (hz : -2147483648 ≤ z ∧ z < 2147483648) : mX G 84 0 [.ref (b + 31), .int (iI z)] [] (wH h0 b I A P R o) n k Q ↔ if 0 ≤ z ∧ z ≤ I 24 then Q (.inl (some (.int (iI 1))), wH h0 b (updI I 24 z) A P R o, n, k) else Q (.inl (some (.int (iI 0))), wH h0 b I A P R o, n, k) := by
  have e := c84 (G := G) (n := n) (k := k) (Q := Q) (i := z) (p := b + 32) (r := b + 31) (c := 255) (len := I 24) (g := A 7) (h := wH h0 b I A P R o) (by omega) (by omega) hz
  rw [← wr_31, rw_31, upA_self] at e
  exact e
theorem d85_31 {x : Int} (hb : G.2.2.2 ≤ b) (hl : 0 ≤ I 24) (hl2 : I 24 < 255) (hx : -2147483648 ≤ x ∧ x < 2147483648) : mX G 85 0 [.ref (b + 31), .int (iI x)] [] (wH h0 b I A P R o) n k Q ↔ Q (.inl none, wH h0 b (updI I 24 (I 24 + 1)) (upA A 7 (upE (A 7) (I 24).toNat (x % 256))) P R o, n, k) := by
  have e := c85 (G := G) (n := n) (k := k) (Q := Q) (p := b + 32) (r := b + 31) (c := 255) (len := I 24) (g := A 7) (h := wH h0 b I A P R o) (show b + 32 ≠ b + 31 by omega) (show G.2.2.2 ≤ b + 31 by omega) (show G.2.2.2 ≤ b + 32 by omega) (by decide) hl hl2 hx
  rw [← wr_31, rw_31] at e
  exact e
theorem d86_31 {x : Int} (hb : G.2.2.2 ≤ b) (hl : 0 ≤ I 24) (hl2 : I 24 + 1 < 255) (hx : -2147483648 ≤ x ∧ x < 2147483648) : mX G 86 0 [.ref (b + 31), .int (iI x)] [] (wH h0 b I A P R o) n k Q ↔ Q (.inl none, wH h0 b (updI I 24 (I 24 + 2)) (upA A 7 (putL (A 7) (I 24) [x / 256 % 256, x % 256])) P R o, n, k) := by
  have e := c86 (G := G) (n := n) (k := k) (Q := Q) (p := b + 32) (r := b + 31) (c := 255) (len := I 24) (g := A 7) (h := wH h0 b I A P R o) (show b + 32 ≠ b + 31 by omega) (show G.2.2.2 ≤ b + 31 by omega) (show G.2.2.2 ≤ b + 32 by omega) (by decide) hl hl2 hx
  rw [← wr_31, rw_31] at e
  exact e
theorem d87_31 {x : Int} (hb : G.2.2.2 ≤ b) (hl : 0 ≤ I 24) (hl2 : I 24 + 3 < 255) (hx : -2147483648 ≤ x ∧ x < 2147483648) : mX G 87 0 [.ref (b + 31), .int (iI x)] [] (wH h0 b I A P R o) n k Q ↔ Q (.inl none, wH h0 b (updI I 24 (I 24 + 4)) (upA A 7 (putL (A 7) (I 24) (w4 x))) P R o, n, k) := by
  have e := c87 (G := G) (n := n) (k := k) (Q := Q) (p := b + 32) (r := b + 31) (c := 255) (len := I 24) (g := A 7) (h := wH h0 b I A P R o) (show b + 32 ≠ b + 31 by omega) (show G.2.2.2 ≤ b + 31 by omega) (show G.2.2.2 ≤ b + 32 by omega) (by decide) hl hl2 hx
  rw [← wr_31, rw_31] at e
  exact e
theorem d88_31 {x : Int} (hb : G.2.2.2 ≤ b) (hl : 0 ≤ I 24) (hl2 : I 24 + 1 < 255) (hx : -2147483648 ≤ x ∧ x < 2147483648) : mX G 88 0 [.ref (b + 31), .int (iI x)] [] (wH h0 b I A P R o) n k Q ↔ if x < 128 then Q (.inl none, wH h0 b (updI I 24 (I 24 + 1)) (upA A 7 (upE (A 7) (I 24).toNat (x % 256))) P R o, n, k) else Q (.inl none, wH h0 b (updI I 24 (I 24 + 2)) (upA A 7 (putL (A 7) (I 24) [129, x % 256])) P R o, n, k) := by
  have e := c88 (G := G) (n := n) (k := k) (Q := Q) (p := b + 32) (r := b + 31) (c := 255) (len := I 24) (g := A 7) (h := wH h0 b I A P R o) (show b + 32 ≠ b + 31 by omega) (show G.2.2.2 ≤ b + 31 by omega) (show G.2.2.2 ≤ b + 32 by omega) (by decide) hl hl2 hx
  rw [← wr_31, rw_31, rw_31] at e
  exact e
theorem wR_39 : mRecv (wH h0 b I A P R o) (b + 39) 7 ↔ True := wc_39
theorem d79_39 : mX G 79 0 [.ref (b + 39)] [] (wH h0 b I A P R o) n k Q ↔ Q (.inl (some (.int (iI (I 25)))), wH h0 b I A P R o, n, k) := by
  have e := c79 (G := G) (n := n) (k := k) (Q := Q) (p := b + 40) (r := b + 39) (c := 300) (len := I 25) (g := A 12) (h := wH h0 b I A P R o)
  rw [← wr_39] at e
  exact e
theorem d80_39 {z : Int} (hl : 0 ≤ I 25 ∧ I 25 ≤ 300) (hz : -2147483648 ≤ z ∧ z < 2147483648) : mX G 80 0 [.ref (b + 39), .int (iI z)] [] (wH h0 b I A P R o) n k Q ↔ Q (.inl (some (.int (iI (rget (I 25) (A 12) z)))), wH h0 b I A P R o, n, k) := by
  have e := c80 (G := G) (n := n) (k := k) (Q := Q) (p := b + 40) (r := b + 39) (c := 300) (len := I 25) (g := A 12) (h := wH h0 b I A P R o) (show b + 40 ≠ b + 39 by omega) (by decide) hl hz
  rw [← wr_39] at e
  exact e
theorem d81_39 {z : Int} (hl : 0 ≤ I 25 ∧ I 25 ≤ 300) (hz : -2147483648 ≤ z ∧ z < 2147483647) : mX G 81 0 [.ref (b + 39), .int (iI z)] [] (wH h0 b I A P R o) n k Q ↔ Q (.inl (some (.int (iI (rget (I 25) (A 12) z * 256 + rget (I 25) (A 12) (z + 1))))), wH h0 b I A P R o, n, k) := by
  have e := c81 (G := G) (n := n) (k := k) (Q := Q) (p := b + 40) (r := b + 39) (c := 300) (len := I 25) (g := A 12) (h := wH h0 b I A P R o) (show b + 40 ≠ b + 39 by omega) (by decide) hl hz
  rw [← wr_39] at e
  exact e
theorem d82_39 {z : Int} (hg : ∀ j, 0 ≤ A 12 j ∧ A 12 j ≤ 255) (hl : 0 ≤ I 25 ∧ I 25 ≤ 300) (hz : -2147483648 ≤ z ∧ z < 2147483647) : mX G 82 0 [.ref (b + 39), .int (iI z), mU, mU] [] (wH h0 b I A P R o) n k Q ↔ Q (.inl (some (.int (iI (rlen (I 25) (A 12) z)))), wH h0 b I A P R o, n, k) := by
  have e := c82 (G := G) (n := n) (k := k) (Q := Q) (p := b + 40) (r := b + 39) (c := 300) (len := I 25) (g := A 12) (h := wH h0 b I A P R o) hg (show b + 40 ≠ b + 39 by omega) (by decide) hl hz
  rw [← wr_39] at e
  exact e
theorem d83_39 (hb : G.2.2.2 ≤ b) : mX G 83 0 [.ref (b + 39)] [] (wH h0 b I A P R o) n k Q ↔ Q (.inl none, wH h0 b (updI I 25 0) A P R o, n, k) := by
  have e := c83 (G := G) (n := n) (k := k) (Q := Q) (p := b + 40) (r := b + 39) (c := 300) (len := I 25) (g := A 12) (h := wH h0 b I A P R o) (by omega)
  rw [← wr_39, rw_39, upA_self] at e
  exact e
theorem d84_39 {z : Int} (hb : G.2.2.2 ≤ b) (hl : 0 ≤ I 25 ∧ I 25 ≤ 300) (hz : -2147483648 ≤ z ∧ z < 2147483648) : mX G 84 0 [.ref (b + 39), .int (iI z)] [] (wH h0 b I A P R o) n k Q ↔ if 0 ≤ z ∧ z ≤ I 25 then Q (.inl (some (.int (iI 1))), wH h0 b (updI I 25 z) A P R o, n, k) else Q (.inl (some (.int (iI 0))), wH h0 b I A P R o, n, k) := by
  have e := c84 (G := G) (n := n) (k := k) (Q := Q) (i := z) (p := b + 40) (r := b + 39) (c := 300) (len := I 25) (g := A 12) (h := wH h0 b I A P R o) (by omega) (by omega) hz
  rw [← wr_39, rw_39, upA_self] at e
  exact e
theorem d85_39 {x : Int} (hb : G.2.2.2 ≤ b) (hl : 0 ≤ I 25) (hl2 : I 25 < 300) (hx : -2147483648 ≤ x ∧ x < 2147483648) : mX G 85 0 [.ref (b + 39), .int (iI x)] [] (wH h0 b I A P R o) n k Q ↔ Q (.inl none, wH h0 b (updI I 25 (I 25 + 1)) (upA A 12 (upE (A 12) (I 25).toNat (x % 256))) P R o, n, k) := by
  have e := c85 (G := G) (n := n) (k := k) (Q := Q) (p := b + 40) (r := b + 39) (c := 300) (len := I 25) (g := A 12) (h := wH h0 b I A P R o) (show b + 40 ≠ b + 39 by omega) (show G.2.2.2 ≤ b + 39 by omega) (show G.2.2.2 ≤ b + 40 by omega) (by decide) hl hl2 hx
  rw [← wr_39, rw_39] at e
  exact e
theorem d86_39 {x : Int} (hb : G.2.2.2 ≤ b) (hl : 0 ≤ I 25) (hl2 : I 25 + 1 < 300) (hx : -2147483648 ≤ x ∧ x < 2147483648) : mX G 86 0 [.ref (b + 39), .int (iI x)] [] (wH h0 b I A P R o) n k Q ↔ Q (.inl none, wH h0 b (updI I 25 (I 25 + 2)) (upA A 12 (putL (A 12) (I 25) [x / 256 % 256, x % 256])) P R o, n, k) := by
  have e := c86 (G := G) (n := n) (k := k) (Q := Q) (p := b + 40) (r := b + 39) (c := 300) (len := I 25) (g := A 12) (h := wH h0 b I A P R o) (show b + 40 ≠ b + 39 by omega) (show G.2.2.2 ≤ b + 39 by omega) (show G.2.2.2 ≤ b + 40 by omega) (by decide) hl hl2 hx
  rw [← wr_39, rw_39] at e
  exact e
theorem d87_39 {x : Int} (hb : G.2.2.2 ≤ b) (hl : 0 ≤ I 25) (hl2 : I 25 + 3 < 300) (hx : -2147483648 ≤ x ∧ x < 2147483648) : mX G 87 0 [.ref (b + 39), .int (iI x)] [] (wH h0 b I A P R o) n k Q ↔ Q (.inl none, wH h0 b (updI I 25 (I 25 + 4)) (upA A 12 (putL (A 12) (I 25) (w4 x))) P R o, n, k) := by
  have e := c87 (G := G) (n := n) (k := k) (Q := Q) (p := b + 40) (r := b + 39) (c := 300) (len := I 25) (g := A 12) (h := wH h0 b I A P R o) (show b + 40 ≠ b + 39 by omega) (show G.2.2.2 ≤ b + 39 by omega) (show G.2.2.2 ≤ b + 40 by omega) (by decide) hl hl2 hx
  rw [← wr_39, rw_39] at e
  exact e
theorem d88_39 {x : Int} (hb : G.2.2.2 ≤ b) (hl : 0 ≤ I 25) (hl2 : I 25 + 1 < 300) (hx : -2147483648 ≤ x ∧ x < 2147483648) : mX G 88 0 [.ref (b + 39), .int (iI x)] [] (wH h0 b I A P R o) n k Q ↔ if x < 128 then Q (.inl none, wH h0 b (updI I 25 (I 25 + 1)) (upA A 12 (upE (A 12) (I 25).toNat (x % 256))) P R o, n, k) else Q (.inl none, wH h0 b (updI I 25 (I 25 + 2)) (upA A 12 (putL (A 12) (I 25) [129, x % 256])) P R o, n, k) := by
  have e := c88 (G := G) (n := n) (k := k) (Q := Q) (p := b + 40) (r := b + 39) (c := 300) (len := I 25) (g := A 12) (h := wH h0 b I A P R o) (show b + 40 ≠ b + 39 by omega) (show G.2.2.2 ≤ b + 39 by omega) (show G.2.2.2 ≤ b + 40 by omega) (by decide) hl hl2 hx
  rw [← wr_39, rw_39, rw_39] at e
  exact e
theorem wR_41 : mRecv (wH h0 b I A P R o) (b + 41) 7 ↔ True := wc_41
theorem d79_41 : mX G 79 0 [.ref (b + 41)] [] (wH h0 b I A P R o) n k Q ↔ Q (.inl (some (.int (iI (I 26)))), wH h0 b I A P R o, n, k) := by
  have e := c79 (G := G) (n := n) (k := k) (Q := Q) (p := b + 42) (r := b + 41) (c := 300) (len := I 26) (g := A 13) (h := wH h0 b I A P R o)
  rw [← wr_41] at e
  exact e
theorem d80_41 {z : Int} (hl : 0 ≤ I 26 ∧ I 26 ≤ 300) (hz : -2147483648 ≤ z ∧ z < 2147483648) : mX G 80 0 [.ref (b + 41), .int (iI z)] [] (wH h0 b I A P R o) n k Q ↔ Q (.inl (some (.int (iI (rget (I 26) (A 13) z)))), wH h0 b I A P R o, n, k) := by
  have e := c80 (G := G) (n := n) (k := k) (Q := Q) (p := b + 42) (r := b + 41) (c := 300) (len := I 26) (g := A 13) (h := wH h0 b I A P R o) (show b + 42 ≠ b + 41 by omega) (by decide) hl hz
  rw [← wr_41] at e
  exact e
theorem d81_41 {z : Int} (hl : 0 ≤ I 26 ∧ I 26 ≤ 300) (hz : -2147483648 ≤ z ∧ z < 2147483647) : mX G 81 0 [.ref (b + 41), .int (iI z)] [] (wH h0 b I A P R o) n k Q ↔ Q (.inl (some (.int (iI (rget (I 26) (A 13) z * 256 + rget (I 26) (A 13) (z + 1))))), wH h0 b I A P R o, n, k) := by
  have e := c81 (G := G) (n := n) (k := k) (Q := Q) (p := b + 42) (r := b + 41) (c := 300) (len := I 26) (g := A 13) (h := wH h0 b I A P R o) (show b + 42 ≠ b + 41 by omega) (by decide) hl hz
  rw [← wr_41] at e
  exact e
theorem d82_41 {z : Int} (hg : ∀ j, 0 ≤ A 13 j ∧ A 13 j ≤ 255) (hl : 0 ≤ I 26 ∧ I 26 ≤ 300) (hz : -2147483648 ≤ z ∧ z < 2147483647) : mX G 82 0 [.ref (b + 41), .int (iI z), mU, mU] [] (wH h0 b I A P R o) n k Q ↔ Q (.inl (some (.int (iI (rlen (I 26) (A 13) z)))), wH h0 b I A P R o, n, k) := by
  have e := c82 (G := G) (n := n) (k := k) (Q := Q) (p := b + 42) (r := b + 41) (c := 300) (len := I 26) (g := A 13) (h := wH h0 b I A P R o) hg (show b + 42 ≠ b + 41 by omega) (by decide) hl hz
  rw [← wr_41] at e
  exact e
theorem d83_41 (hb : G.2.2.2 ≤ b) : mX G 83 0 [.ref (b + 41)] [] (wH h0 b I A P R o) n k Q ↔ Q (.inl none, wH h0 b (updI I 26 0) A P R o, n, k) := by
  have e := c83 (G := G) (n := n) (k := k) (Q := Q) (p := b + 42) (r := b + 41) (c := 300) (len := I 26) (g := A 13) (h := wH h0 b I A P R o) (by omega)
  rw [← wr_41, rw_41, upA_self] at e
  exact e
theorem d84_41 {z : Int} (hb : G.2.2.2 ≤ b) (hl : 0 ≤ I 26 ∧ I 26 ≤ 300) (hz : -2147483648 ≤ z ∧ z < 2147483648) : mX G 84 0 [.ref (b + 41), .int (iI z)] [] (wH h0 b I A P R o) n k Q ↔ if 0 ≤ z ∧ z ≤ I 26 then Q (.inl (some (.int (iI 1))), wH h0 b (updI I 26 z) A P R o, n, k) else Q (.inl (some (.int (iI 0))), wH h0 b I A P R o, n, k) := by
  have e := c84 (G := G) (n := n) (k := k) (Q := Q) (i := z) (p := b + 42) (r := b + 41) (c := 300) (len := I 26) (g := A 13) (h := wH h0 b I A P R o) (by omega) (by omega) hz
  rw [← wr_41, rw_41, upA_self] at e
  exact e
theorem d85_41 {x : Int} (hb : G.2.2.2 ≤ b) (hl : 0 ≤ I 26) (hl2 : I 26 < 300) (hx : -2147483648 ≤ x ∧ x < 2147483648) : mX G 85 0 [.ref (b + 41), .int (iI x)] [] (wH h0 b I A P R o) n k Q ↔ Q (.inl none, wH h0 b (updI I 26 (I 26 + 1)) (upA A 13 (upE (A 13) (I 26).toNat (x % 256))) P R o, n, k) := by
  have e := c85 (G := G) (n := n) (k := k) (Q := Q) (p := b + 42) (r := b + 41) (c := 300) (len := I 26) (g := A 13) (h := wH h0 b I A P R o) (show b + 42 ≠ b + 41 by omega) (show G.2.2.2 ≤ b + 41 by omega) (show G.2.2.2 ≤ b + 42 by omega) (by decide) hl hl2 hx
  rw [← wr_41, rw_41] at e
  exact e
theorem d86_41 {x : Int} (hb : G.2.2.2 ≤ b) (hl : 0 ≤ I 26) (hl2 : I 26 + 1 < 300) (hx : -2147483648 ≤ x ∧ x < 2147483648) : mX G 86 0 [.ref (b + 41), .int (iI x)] [] (wH h0 b I A P R o) n k Q ↔ Q (.inl none, wH h0 b (updI I 26 (I 26 + 2)) (upA A 13 (putL (A 13) (I 26) [x / 256 % 256, x % 256])) P R o, n, k) := by
  have e := c86 (G := G) (n := n) (k := k) (Q := Q) (p := b + 42) (r := b + 41) (c := 300) (len := I 26) (g := A 13) (h := wH h0 b I A P R o) (show b + 42 ≠ b + 41 by omega) (show G.2.2.2 ≤ b + 41 by omega) (show G.2.2.2 ≤ b + 42 by omega) (by decide) hl hl2 hx
  rw [← wr_41, rw_41] at e
  exact e
theorem d87_41 {x : Int} (hb : G.2.2.2 ≤ b) (hl : 0 ≤ I 26) (hl2 : I 26 + 3 < 300) (hx : -2147483648 ≤ x ∧ x < 2147483648) : mX G 87 0 [.ref (b + 41), .int (iI x)] [] (wH h0 b I A P R o) n k Q ↔ Q (.inl none, wH h0 b (updI I 26 (I 26 + 4)) (upA A 13 (putL (A 13) (I 26) (w4 x))) P R o, n, k) := by
  have e := c87 (G := G) (n := n) (k := k) (Q := Q) (p := b + 42) (r := b + 41) (c := 300) (len := I 26) (g := A 13) (h := wH h0 b I A P R o) (show b + 42 ≠ b + 41 by omega) (show G.2.2.2 ≤ b + 41 by omega) (show G.2.2.2 ≤ b + 42 by omega) (by decide) hl hl2 hx
  rw [← wr_41, rw_41] at e
  exact e
theorem d88_41 {x : Int} (hb : G.2.2.2 ≤ b) (hl : 0 ≤ I 26) (hl2 : I 26 + 1 < 300) (hx : -2147483648 ≤ x ∧ x < 2147483648) : mX G 88 0 [.ref (b + 41), .int (iI x)] [] (wH h0 b I A P R o) n k Q ↔ if x < 128 then Q (.inl none, wH h0 b (updI I 26 (I 26 + 1)) (upA A 13 (upE (A 13) (I 26).toNat (x % 256))) P R o, n, k) else Q (.inl none, wH h0 b (updI I 26 (I 26 + 2)) (upA A 13 (putL (A 13) (I 26) [129, x % 256])) P R o, n, k) := by
  have e := c88 (G := G) (n := n) (k := k) (Q := Q) (p := b + 42) (r := b + 41) (c := 300) (len := I 26) (g := A 13) (h := wH h0 b I A P R o) (show b + 42 ≠ b + 41 by omega) (show G.2.2.2 ≤ b + 41 by omega) (show G.2.2.2 ≤ b + 42 by omega) (by decide) hl hl2 hx
  rw [← wr_41, rw_41, rw_41] at e
  exact e
theorem d89_4_39 {s N : Int} (hb : G.2.2.2 ≤ b) (hg2 : ∀ j, 0 ≤ A 12 j ∧ A 12 j ≤ 255) (hl2 : 0 ≤ I 25 ∧ I 25 ≤ 300) (hl : 0 ≤ I 7) (hN0 : 0 ≤ N) (hN : I 7 + N ≤ 255) (hs : 0 ≤ s ∧ s < 100000) : mX G 89 0 [.ref (b + 4), .ref (b + 39), .int (iI s), .int (iI N), mU] [] (wH h0 b I A P R o) n k Q ↔ Q (.inl none, wH h0 b (updI I 7 (I 7 + N)) (upA A 1 (rcp (A 1) (I 7) (fun j => rget (I 25) (A 12) (s + j)) N.toNat)) P R o, n, k) := by
  have e := c89 (G := G) (n := n) (k := k) (Q := Q) (r := b + 4) (p := b + 5) (c := 255) (len := I 7) (g := A 1) (r2 := b + 39) (p2 := b + 40) (c2 := 300) (len2 := I 25) (g2 := A 12) (h := wH h0 b I A P R o) hg2 (by omega) (by omega) (by omega) (by omega) (by omega) (by omega) (by omega) (by omega) (by decide) (by decide) hl2 hl hN0 hN hs
  rw [← wr_39, ← wr_4, rw_4] at e
  exact e
theorem d89_4_41 {s N : Int} (hb : G.2.2.2 ≤ b) (hg2 : ∀ j, 0 ≤ A 13 j ∧ A 13 j ≤ 255) (hl2 : 0 ≤ I 26 ∧ I 26 ≤ 300) (hl : 0 ≤ I 7) (hN0 : 0 ≤ N) (hN : I 7 + N ≤ 255) (hs : 0 ≤ s ∧ s < 100000) : mX G 89 0 [.ref (b + 4), .ref (b + 41), .int (iI s), .int (iI N), mU] [] (wH h0 b I A P R o) n k Q ↔ Q (.inl none, wH h0 b (updI I 7 (I 7 + N)) (upA A 1 (rcp (A 1) (I 7) (fun j => rget (I 26) (A 13) (s + j)) N.toNat)) P R o, n, k) := by
  have e := c89 (G := G) (n := n) (k := k) (Q := Q) (r := b + 4) (p := b + 5) (c := 255) (len := I 7) (g := A 1) (r2 := b + 41) (p2 := b + 42) (c2 := 300) (len2 := I 26) (g2 := A 13) (h := wH h0 b I A P R o) hg2 (by omega) (by omega) (by omega) (by omega) (by omega) (by omega) (by omega) (by omega) (by decide) (by decide) hl2 hl hN0 hN hs
  rw [← wr_41, ← wr_4, rw_4] at e
  exact e
theorem d89_12_4 {s N : Int} (hb : G.2.2.2 ≤ b) (hg2 : ∀ j, 0 ≤ A 1 j ∧ A 1 j ≤ 255) (hl2 : 0 ≤ I 7 ∧ I 7 ≤ 255) (hl : 0 ≤ I 14) (hN0 : 0 ≤ N) (hN : I 14 + N ≤ 8) (hs : 0 ≤ s ∧ s < 100000) : mX G 89 0 [.ref (b + 12), .ref (b + 4), .int (iI s), .int (iI N), mU] [] (wH h0 b I A P R o) n k Q ↔ Q (.inl none, wH h0 b (updI I 14 (I 14 + N)) (upA A 2 (rcp (A 2) (I 14) (fun j => rget (I 7) (A 1) (s + j)) N.toNat)) P R o, n, k) := by
  have e := c89 (G := G) (n := n) (k := k) (Q := Q) (r := b + 12) (p := b + 13) (c := 8) (len := I 14) (g := A 2) (r2 := b + 4) (p2 := b + 5) (c2 := 255) (len2 := I 7) (g2 := A 1) (h := wH h0 b I A P R o) hg2 (by omega) (by omega) (by omega) (by omega) (by omega) (by omega) (by omega) (by omega) (by decide) (by decide) hl2 hl hN0 hN hs
  rw [← wr_4, ← wr_12, rw_12] at e
  exact e
theorem d90_29_4 (hb : G.2.2.2 ≤ b) (hg2 : ∀ j, 0 ≤ A 1 j ∧ A 1 j ≤ 255) (hl2 : 0 ≤ I 7 ∧ I 7 ≤ 255) (hl : 0 ≤ I 23) (hN : I 23 + I 7 ≤ 255) : mX G 90 0 [.ref (b + 29), .ref (b + 4), mU] [] (wH h0 b I A P R o) n k Q ↔ Q (.inl none, wH h0 b (updI I 23 (I 23 + I 7)) (upA A 6 (rcp (A 6) (I 23) (fun j => rget (I 7) (A 1) j) (I 7).toNat)) P R o, n, k) := by
  have e := c90 (G := G) (n := n) (k := k) (Q := Q) (r := b + 29) (p := b + 30) (c := 255) (len := I 23) (g := A 6) (r2 := b + 4) (p2 := b + 5) (c2 := 255) (len2 := I 7) (g2 := A 1) (h := wH h0 b I A P R o) hg2 (by omega) (by omega) (by omega) (by omega) (by omega) (by omega) (by omega) (by omega) (by decide) (by decide) hl2 hl hN
  rw [← wr_4, ← wr_29, rw_29] at e
  exact e
theorem d90_1_31 (hb : G.2.2.2 ≤ b) (hg2 : ∀ j, 0 ≤ A 7 j ∧ A 7 j ≤ 255) (hl2 : 0 ≤ I 24 ∧ I 24 ≤ 255) (hl : 0 ≤ I 1) (hN : I 1 + I 24 ≤ 256) : mX G 90 0 [.ref (b + 1), .ref (b + 31), mU] [] (wH h0 b I A P R o) n k Q ↔ Q (.inl none, wH h0 b (updI I 1 (I 1 + I 24)) (upA A 0 (rcp (A 0) (I 1) (fun j => rget (I 24) (A 7) j) (I 24).toNat)) P R o, n, k) := by
  have e := c90 (G := G) (n := n) (k := k) (Q := Q) (r := b + 1) (p := b + 2) (c := 256) (len := I 1) (g := A 0) (r2 := b + 31) (p2 := b + 32) (c2 := 255) (len2 := I 24) (g2 := A 7) (h := wH h0 b I A P R o) hg2 (by omega) (by omega) (by omega) (by omega) (by omega) (by omega) (by omega) (by omega) (by decide) (by decide) hl2 hl hN
  rw [← wr_31, ← wr_1, rw_1] at e
  exact e
theorem d91_4_12 (hg : ∀ j, 0 ≤ A 1 j ∧ A 1 j ≤ 255) (hg2 : ∀ j, 0 ≤ A 2 j ∧ A 2 j ≤ 255) (hl : 0 ≤ I 7 ∧ I 7 ≤ 255) (hl2 : 0 ≤ I 14 ∧ I 14 ≤ 8) : mX G 91 0 [.ref (b + 4), .ref (b + 12), mU] [] (wH h0 b I A P R o) n k Q ↔ Q (.inl (some (.int (iI (samI (rget (I 7) (A 1)) (rget (I 14) (A 2)) (I 14).toNat 0)))), wH h0 b I A P R o, n, k) := by
  have e := c91 (G := G) (n := n) (k := k) (Q := Q) (r := b + 4) (p := b + 5) (c := 255) (len := I 7) (g := A 1) (r2 := b + 12) (p2 := b + 13) (c2 := 8) (len2 := I 14) (g2 := A 2) (h := wH h0 b I A P R o) hg hg2 (by omega) (by omega) (by omega) (by omega) (by omega) (by omega) (by decide) (by decide) hl hl2
  rw [← wr_12, ← wr_4] at e
  exact e
theorem d91_4_14 (hg : ∀ j, 0 ≤ A 1 j ∧ A 1 j ≤ 255) (hg2 : ∀ j, 0 ≤ A 3 j ∧ A 3 j ≤ 255) (hl : 0 ≤ I 7 ∧ I 7 ≤ 255) (hl2 : 0 ≤ I 15 ∧ I 15 ≤ 8) : mX G 91 0 [.ref (b + 4), .ref (b + 14), mU] [] (wH h0 b I A P R o) n k Q ↔ Q (.inl (some (.int (iI (samI (rget (I 7) (A 1)) (rget (I 15) (A 3)) (I 15).toNat 0)))), wH h0 b I A P R o, n, k) := by
  have e := c91 (G := G) (n := n) (k := k) (Q := Q) (r := b + 4) (p := b + 5) (c := 255) (len := I 7) (g := A 1) (r2 := b + 14) (p2 := b + 15) (c2 := 8) (len2 := I 15) (g2 := A 3) (h := wH h0 b I A P R o) hg hg2 (by omega) (by omega) (by omega) (by omega) (by omega) (by omega) (by decide) (by decide) hl hl2
  rw [← wr_14, ← wr_4] at e
  exact e
end MROWW
