-- what houses weigh, in words of their own: v 0 LETTERS, 1 GAP, 2 DAY, 3 BEHIND, 4 SUM, 5 SORROW, 6.. KIND, 12.. FEAR, 18.. THICK, 24.. HOLDS, 30.. AGE
def inB (x a b : Int32) : Bool := decide (a ≤ x) && decide (x ≤ b)
def hasL (v : Nat → Int32) (i : Int32) : Bool := decide (0 ≤ i) && decide (i < v 0)
def bitB (x i : Int32) : Bool := decide ((x >>> (i &&& 31)) &&& 1 = 1)
def behB (v : Nat → Int32) (i : Int32) : Bool := hasL v i && bitB (v 3) i
def bitc (x : Int32) : Int32 :=
  let a := x - ((x.toUInt32 >>> ((1 : Int32).toUInt32 &&& Int32.toUInt32 31)).toInt32 &&& 1431655765)
  let b := (a &&& 858993459) + ((a.toUInt32 >>> ((2 : Int32).toUInt32 &&& Int32.toUInt32 31)).toInt32 &&& 858993459)
  let c := (b + (b.toUInt32 >>> ((4 : Int32).toUInt32 &&& Int32.toUInt32 31)).toInt32) &&& 252645135
  let d := c + (c.toUInt32 >>> ((8 : Int32).toUInt32 &&& Int32.toUInt32 31)).toInt32
  let e := d + (d.toUInt32 >>> ((16 : Int32).toUInt32 &&& Int32.toUInt32 31)).toInt32
  e &&& 63
def wgh (k f a o : Int32) : Int32 := if k = 2 then 2 * (f + a) else if k = 3 then (if a < 9 then f + a else 0) else if k = 4 then f else if k = 5 then f + o else f + a
def wOf (v : Nat → Int32) (j : Nat) : Int32 := if behB v (nI j) then wgh (v (6 + j)) (v (12 + j)) (v (30 + j)) (bitc (v 3) - 1) else 0
def wSum (v : Nat → Int32) : Nat → Int32
  | 0 => 0
  | j + 1 => wSum v j + wOf v j
def wght (v : Nat → Int32) : Int32 := wSum v (nN (v 0))
def tSum (v : Nat → Int32) : Nat → Int32
  | 0 => 0
  | j + 1 => tSum v j + (if behB v (nI j) then v (18 + j) else 0)
def thck (v : Nat → Int32) : Int32 := tSum v (nN (v 0))
def fAh (v : Nat → Int32) (j k : Nat) : Bool := decide (v (18 + k) < v (18 + j)) || (decide (v (18 + j) = v (18 + k)) && decide (v (30 + k) < v (30 + j)))
def mn9 (x : Int32) : Int32 := if x < 9999 then x else 9999
def awayV (v : Nat → Int32) (i g : Int32) : Nat → Int32 := upd (upd v 3 (v 3 &&& ((1 <<< (i &&& 31)) ^^^ (-1)))) 5 (mn9 (v 5 + g))
theorem nz_ge {x : Int32} : ¬ x < 0 ↔ 0 ≤ x := Int32.not_lt
theorem toI {x : Int32} {c : Int32} (h : x.toInt = c.toInt) : x = c := Int32.toInt_inj.mp h
-- an index below a number of letters that is at most 6
theorem has_ix {n i : Int32} (h0 : 0 ≤ i) (h1 : i < n) (h6 : nN n ≤ 6) : ∃ j : Nat, j < nN n ∧ j < 6 ∧ i = nI j := by
  obtain ⟨j, hj, rfl⟩ := nI_of (Int32.not_lt.mpr h0)
  have := (lt_nN hj).mp h1
  exact ⟨j, this, by omega, rfl⟩
theorem bI_t {b : Bool} (h : b = true) : bI b = 1 := bI_1.mpr h
theorem bI_f {b : Bool} (h : ¬ b = true) : bI b = 0 := by cases b; rfl; exact absurd rfl h
theorem i_lt {a b : Int32} : a < b ↔ a.toInt < b.toInt := Int32.lt_iff_toInt_lt
theorem i_le {a b : Int32} : a ≤ b ↔ a.toInt ≤ b.toInt := Int32.le_iff_toInt_le
theorem i_eq {a b : Int32} : a = b ↔ a.toInt = b.toInt := Int32.toInt_inj.symm
theorem ti_0 : (0 : Int32).toInt = 0 := by decide
theorem ti_1 : (1 : Int32).toInt = 1 := by decide
theorem ti_2 : (2 : Int32).toInt = 2 := by decide
theorem ti_3 : (3 : Int32).toInt = 3 := by decide
theorem ti_4 : (4 : Int32).toInt = 4 := by decide
theorem ti_5 : (5 : Int32).toInt = 5 := by decide
theorem ti_6 : (6 : Int32).toInt = 6 := by decide
theorem ti_7 : (7 : Int32).toInt = 7 := by decide
theorem ti_8 : (8 : Int32).toInt = 8 := by decide
theorem ti_9 : (9 : Int32).toInt = 9 := by decide
theorem ti_10 : (10 : Int32).toInt = 10 := by decide
theorem ti_11 : (11 : Int32).toInt = 11 := by decide
theorem ti_12 : (12 : Int32).toInt = 12 := by decide
theorem ti_13 : (13 : Int32).toInt = 13 := by decide
theorem ti_14 : (14 : Int32).toInt = 14 := by decide
theorem ti_16 : (16 : Int32).toInt = 16 := by decide
theorem ti_20 : (20 : Int32).toInt = 20 := by decide
theorem ti_21 : (21 : Int32).toInt = 21 := by decide
theorem ti_22 : (22 : Int32).toInt = 22 := by decide
theorem ti_23 : (23 : Int32).toInt = 23 := by decide
theorem ti_24 : (24 : Int32).toInt = 24 := by decide
theorem ti_30 : (30 : Int32).toInt = 30 := by decide
theorem ti_31 : (31 : Int32).toInt = 31 := by decide
theorem ti_36 : (36 : Int32).toInt = 36 := by decide
theorem ti_40 : (40 : Int32).toInt = 40 := by decide
theorem ti_44 : (44 : Int32).toInt = 44 := by decide
theorem ti_48 : (48 : Int32).toInt = 48 := by decide
theorem ti_57 : (57 : Int32).toInt = 57 := by decide
theorem ti_59 : (59 : Int32).toInt = 59 := by decide
theorem ti_60 : (60 : Int32).toInt = 60 := by decide
theorem ti_61 : (61 : Int32).toInt = 61 := by decide
theorem ti_63 : (63 : Int32).toInt = 63 := by decide
theorem ti_64 : (64 : Int32).toInt = 64 := by decide
theorem ti_98 : (98 : Int32).toInt = 98 := by decide
theorem ti_99 : (99 : Int32).toInt = 99 := by decide
theorem ti_100 : (100 : Int32).toInt = 100 := by decide
theorem ti_101 : (101 : Int32).toInt = 101 := by decide
theorem ti_110 : (110 : Int32).toInt = 110 := by decide
theorem ti_115 : (115 : Int32).toInt = 115 := by decide
theorem ti_128 : (128 : Int32).toInt = 128 := by decide
theorem ti_255 : (255 : Int32).toInt = 255 := by decide
theorem ti_300 : (300 : Int32).toInt = 300 := by decide
theorem ti_900 : (900 : Int32).toInt = 900 := by decide
theorem ti_972 : (972 : Int32).toInt = 972 := by decide
theorem ti_999 : (999 : Int32).toInt = 999 := by decide
theorem ti_1000 : (1000 : Int32).toInt = 1000 := by decide
theorem ti_9999 : (9999 : Int32).toInt = 9999 := by decide
theorem ti_m1 : (-1 : Int32).toInt = -1 := by decide
theorem ti_m1000000 : (-1000000 : Int32).toInt = -1000000 := by decide
theorem ti_m1000001 : (-1000001 : Int32).toInt = -1000001 := by decide
theorem ti_m1000002 : (-1000002 : Int32).toInt = -1000002 := by decide
theorem ti_m1000003 : (-1000003 : Int32).toInt = -1000003 := by decide
theorem cle {c : Int32} {n j : Nat} (hc : c.toInt = (n : Int)) (hj : j < 2 ^ 31) : c ≤ nI j ↔ n ≤ j := by rw [i_le, hc, nI_toInt hj]; omega
theorem clt {c : Int32} {n j : Nat} (hc : c.toInt = (n : Int)) (hj : j < 2 ^ 31) : c < nI j ↔ n < j := by rw [i_lt, hc, nI_toInt hj]; omega
theorem lec {c : Int32} {n j : Nat} (hc : c.toInt = (n : Int)) (hj : j < 2 ^ 31) : nI j ≤ c ↔ j ≤ n := by rw [i_le, hc, nI_toInt hj]; omega
theorem ltc {c : Int32} {n j : Nat} (hc : c.toInt = (n : Int)) (hj : j < 2 ^ 31) : nI j < c ↔ j < n := by rw [i_lt, hc, nI_toInt hj]; omega
theorem eqc {c : Int32} {n j : Nat} (hc : c.toInt = (n : Int)) (hj : j < 2 ^ 31) : nI j = c ↔ j = n := by rw [i_eq, hc, nI_toInt hj]; omega
