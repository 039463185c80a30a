/-! places told by ints: the place, if there is one of n -/
def idx (n : Nat) (x : Int32) : Option Nat := if 0 ≤ x.toInt ∧ x.toInt < n then some x.toInt.toNat else none
theorem idx_some {n r : Nat} {x : Int32} (h : idx n x = some r) : r < n ∧ x = nI r := by
  unfold idx at h
  split at h
  · rename_i h1
    have h2 : x.toInt.toNat = r := Option.some.inj h
    have h3 : (r : Int) = x.toInt := by omega
    refine ⟨by omega, ?_⟩
    have h4 : r < 2 ^ 31 := by
      have := x.toInt_lt
      omega
    exact Int32.toInt_inj.mp (by rw [nI_toInt h4]; omega)
  · cases h
theorem i64_i32 (x : Int32) : x.toInt64.toInt = x.toInt := by simp
theorem idx_in {n : Nat} (hn : n ≤ 12) (x : Int32) : isInB x.toInt64 0 ((nI n - 1).toInt64) = (idx n x).isSome := by
  have h1 : (nI n - 1).toInt = (n : Int) - 1 := by
    have h := pk_sub_toInt (a := n) (b := 1) (by omega) (by omega)
    exact h
  unfold isInB idx
  have e1 : (x.toInt64 < 0) ↔ x.toInt < 0 := by rw [Int64.lt_iff_toInt_lt, i64_i32]; simp
  have e2 : ((nI n - 1).toInt64 < x.toInt64) ↔ (n : Int) - 1 < x.toInt := by rw [Int64.lt_iff_toInt_lt, i64_i32, i64_i32, h1]
  by_cases a : x.toInt < 0
  · rw [decide_eq_true (e1.mpr a), if_neg (by omega)]; rfl
  · rw [decide_eq_false (fun z => a (e1.mp z))]
    by_cases b : (n : Int) - 1 < x.toInt
    · rw [decide_eq_true (e2.mpr b), if_neg (by omega)]; rfl
    · rw [decide_eq_false (fun z => b (e2.mp z)), if_pos (by omega)]; rfl
theorem idx_no {n : Nat} {x : Int32} (hn : n ≤ 12) (h : idx n x = none) : isInB x.toInt64 0 ((nI n - 1).toInt64) = false := by rw [idx_in hn, h]; rfl
theorem idx_yes {n r : Nat} {x : Int32} (hn : n ≤ 12) (h : idx n x = some r) : isInB x.toInt64 0 ((nI n - 1).toInt64) = true := by rw [idx_in hn, h]; rfl
def coC (M : MS) (v : Int64) : Nat := if M.co = 12 then 1 else if M.hr = true then 1 else if isInB v 0 1000 = true then 0 else 2
def clM (M : MS) (v : Int64) : Int32 × MS := if coC M v = 0 then (nI M.co, ms 0 M.wk (M.co + 1) (vp_updL M.cs M.co v) M.ro M.ki M.wo M.ri M.fa M.li M.ln M.hr M.st M.dn (va_up M.pl M.co (some M.co)) (va_up M.ou M.co M.co) (vp_updL M.ta (468 + M.co) v) M.nx M.ag) else (nI 0, mTh M (coC M v))
def roC (M : MS) (kd wk : Int32) (b : Int64) : Nat := if M.ro = 12 then 1 else if isInB kd.toInt64 0 2 = true then (if isInB wk.toInt64 0 ((M.wk - 1).toInt64) = true then (if isInB b (-1000000) 1000000 = true then 0 else 2) else 2) else 2
def rwM (M : MS) (kd wk : Int32) (b : Int64) : Int32 × MS := if roC M kd wk b = 0 then (nI M.ro, adM (mTh M 0) kd wk b) else (nI 0, mTh M (roC M kd wk b))
def vaM (M : MS) (pt : Int32) : Int64 × MS := if paB pt = true then (frR (M.ta 480) M.dn pt, mTh M 0) else (0, mTh M 1)
def ckS (M : MS) (r : Nat) : Nat → Nat → Int64 → Int64
  | _, 0, acc => acc
  | c, n + 1, acc => ckS M r (c + 1) n (acc + M.fa (12 * r + c) * amR M c)
def ckO (M : MS) (r : Nat) : Int64 := ckS M r 0 M.co (-M.dn * M.ri r)
def ckB (M : MS) (r : Nat) : Bool := if M.ki r = 0 then !(decide (ckO M r < 0)) else if M.ki r = 1 then !(decide (0 < ckO M r)) else decide (ckO M r = 0)
def ckR (M : MS) : Nat → Nat → Nat
  | _, 0 => 0
  | r, n + 1 => if ckB M r then ckR M (r + 1) n else r + 1
