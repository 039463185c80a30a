def rmX (M : MS) (r q : Nat) (b : Int64) (k : Nat) : Int64 := M.ta (13 * k + 12) + ((if M.ki r = 1 then mvR M k q (-b) else mvR M k q b) + (if M.ki r = 2 then mvR M k (q + 1) (-b) else 0))
def rmL (M : MS) (r q : Nat) (b : Int64) : Nat → Nat → (Nat → Int64) → Bool → (Nat → Int64) × Bool
  | _, 0, t, f => (t, f)
  | k, n + 1, t, f => if inB M k = true then rmL M r q b (k + 1) n (vp_updL t k (rmX M r q b k)) (f && !isGrB (rmX M r q b k)) else rmL M r q b (k + 1) n t f
def rcL (M : MS) (nx : Nat → Int64) : Nat → Nat → (Nat → Int64) → (Nat → Int64)
  | _, 0, u => u
  | k, n + 1, u => rcL M nx (k + 1) n (if inB M k = true then vp_updL u (13 * k + 12) (nx k) else u)
def rmN (M : MS) (r q : Nat) (b : Int64) : (Nat → Int64) × Bool := rmL M r q b 0 37 M.nx true
def riA (M : MS) (r : Nat) (v : Int64) : MS := ms 0 M.wk M.co M.cs M.ro M.ki M.wo (vp_updL M.ri r v) M.fa M.li M.ln M.hr M.st M.dn M.pl M.ou M.ta M.nx none
def riT (M : MS) (r : Nat) (v : Int64) (t : Nat → Int64) : MS := ms 0 M.wk M.co M.cs M.ro M.ki M.wo (vp_updL M.ri r v) M.fa M.li M.ln M.hr M.st M.dn M.pl M.ou (rcL M t 0 37 M.ta) t none
def riF (M : MS) (t : Nat → Int64) : MS := ms 0 M.wk M.co M.cs M.ro M.ki M.wo M.ri M.fa M.li M.ln M.hr M.st M.dn M.pl M.ou M.ta t M.ag
def riM (M : MS) (x : Int32) (v : Int64) : Bool × MS := match idx M.ro x with
  | none => (false, mTh M 1)
  | some r => if isInB v (-1000000) 1000000 = true then (match M.li r with
    | none => (true, riA M r v)
    | some q => if (rmN M r q (v - M.ri r)).2 = true then (true, riT M r v (rmN M r q (v - M.ri r)).1) else (false, riF M (rmN M r q (v - M.ri r)).1)) else (false, mTh M 2)
