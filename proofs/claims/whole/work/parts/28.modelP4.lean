def faM (M : MS) (x y v : Int32) : Int32 × MS := match idx M.ro x with
  | none => (nI 0, mTh M 1)
  | some r => match idx M.co y with
    | none => (nI 0, mTh M 1)
    | some j => match M.li r with
      | some _ => (nI 0, mTh M 2)
      | none => if isInB v.toInt64 (-1000) 1000 = true then ((M.fa (12 * r + j)).toInt32, ms 0 M.wk M.co M.cs M.ro M.ki M.wo M.ri (vp_updL M.fa (12 * r + j) v.toInt64) M.li M.ln M.hr M.st M.dn M.pl M.ou M.ta M.nx M.ag) else (nI 0, mTh M 3)
def cuS (M : MS) (i j : Nat) : MS := ms 0 M.wk M.co M.cs M.ro M.ki M.wo M.ri (vp_updL (vp_updL M.fa (12 * M.ro + i) 1) (12 * M.ro + j) 1) M.li M.ln M.hr M.st M.dn M.pl M.ou M.ta M.nx M.ag
def cuM (M : MS) (x y : Int32) : Int32 × MS := match idx M.co x with
  | none => (nI 0, mTh M 1)
  | some i => match idx M.co y with
    | none => (nI 0, mTh M 1)
    | some j => if M.ro = 12 then (nI 0, mTh M 2) else if i = j then (nI 0, mTh M 3) else (nI M.ro, adM (cuS M i j) 1 0 1)
def shM (M : MS) (x pt : Int32) : Int64 × MS := match idx M.co x with
  | none => (0, mTh M 1)
  | some q => if paB pt = true then (frR (amR M q) M.dn pt, mTh M 0) else (0, mTh M 2)
def duR (M : MS) (r : Nat) : Int64 := match M.li r with
  | none => 0
  | some q => if M.ki r = 1 then -(prR M q) else if M.ki r = 0 then prR M q else prR M q - prR M (q + 1)
def duM (M : MS) (x pt : Int32) : Int64 × MS := match idx M.ro x with
  | none => (0, mTh M 1)
  | some r => if paB pt = true then (frR (duR M r) M.dn pt, mTh M 0) else (0, mTh M 2)
def foR (M : MS) (g r : Nat) : Int64 := match M.li r with
  | none => 0
  | some q => if M.ki r = 1 then -(weR M g q) else if M.ki r = 0 then weR M g q else weR M g q - weR M g (q + 1)
def foM (M : MS) (x pt : Int32) : Int64 × MS := match idx M.ro x with
  | none => (0, mTh M 1)
  | some r => match M.ag with
    | none => (0, mTh M 2)
    | some g => if paB pt = true then (frR (foR M g r) M.dn pt, mTh M 0) else (0, mTh M 3)
def ctR (M : MS) (x : Int32) : Int32 := if isInB x.toInt64 5 ((nI 4 + M.wk).toInt64) = true then nI (rwL M.wo (x - 5) 0 M.ro 0) else if x = 0 then nI M.co else if x = 1 then nI M.ro else if x = 2 then nI M.ln else if x = 3 then M.dn.toInt32 else if x = 4 then M.wk else -1
