theorem idx_in9 (x : Int32) : isInB x.toInt64 0 1000 = (idx 1001 x).isSome := by
  unfold isInB idx
  have e1 : (x.toInt64 < 0) ↔ x.toInt < 0 := by rw [Int64.lt_iff_toInt_lt, i64_i32]; simp
  have e2 : ((1000 : Int64) < x.toInt64) ↔ (1000 : Int) < x.toInt := by
    rw [Int64.lt_iff_toInt_lt, i64_i32]
    have h : (1000 : Int64).toInt = 1000 := by decide
    rw [h]
  by_cases a : x.toInt < 0
  · rw [decide_eq_true (e1.mpr a), if_neg (by omega)]; rfl
  · rw [decide_eq_false (fun z => a (e1.mp z))]
    by_cases b : (1000 : Int) < x.toInt
    · rw [decide_eq_true (e2.mpr b), if_neg (by omega)]; rfl
    · rw [decide_eq_false (fun z => b (e2.mp z)), if_pos (by omega)]; rfl
theorem idx_no9 {x : Int32} (h : idx 1001 x = none) : isInB x.toInt64 0 1000 = false := by rw [idx_in9, h]; rfl
theorem idx_yes9 {x : Int32} {r : Nat} (h : idx 1001 x = some r) : isInB x.toInt64 0 1000 = true := by rw [idx_in9, h]; rfl
def mAg (M : MS) (a : Option Nat) : MS := ms M.thr M.wk M.co M.cs M.ro M.ki M.wo M.ri M.fa M.li M.ln M.hr M.st M.dn M.pl M.ou M.ta M.nx a
def ruS (M : MS) : MS := ms 0 M.wk M.co M.cs M.ro M.ki M.wo M.ri M.fa M.li M.ln true M.st M.dn M.pl M.ou M.ta M.nx none
def ruL : Nat → Nat → MS → Bool × MS
  | _, 0, M => (true, M)
  | r, n + 1, M => match M.li r with
    | some _ => ruL (r + 1) n M
    | none => if (cmM M r).1 = true then ruL (r + 1) n (cmM M r).2 else (false, (cmM M r).2)
def ruE : Nat → MS → Int32 × MS
  | 0, M => match lvR M 0 (M.co + M.ln) with
    | none => (nI 0, M)
    | some le => match enR M le 0 M.co none with
      | none => (nI 1, mAg M (some le))
      | some _ => (nI 2, M)
  | n + 1, M => match lvR M 0 (M.co + M.ln) with
    | none => (nI 0, M)
    | some le => match enR M le 0 M.co none with
      | none => (nI 1, mAg M (some le))
      | some q => if (spM M le q).1 = true then ruE n (spM M le q).2 else (nI 3, (spM M le q).2)
def ruM (M : MS) (x : Int32) : Int32 × MS := match idx 1001 x with
  | none => (nI 0, mTh M 1)
  | some mo9 => if (ruL 0 M.ro (ruS M)).1 = true then ruE mo9 (ruL 0 M.ro (ruS M)).2 else (nI 3, (ruL 0 M.ro (ruS M)).2)
