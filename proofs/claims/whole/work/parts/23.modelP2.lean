def mTa (M : MS) (t : Nat → Int64) : MS := ms M.thr M.wk M.co M.cs M.ro M.ki M.wo M.ri M.fa M.li M.ln M.hr M.st M.dn M.pl M.ou t M.nx M.ag
def mNx (M : MS) (t : Nat → Int64) : MS := ms M.thr M.wk M.co M.cs M.ro M.ki M.wo M.ri M.fa M.li M.ln M.hr M.st M.dn M.pl M.ou M.ta t M.ag
def mTn (M : MS) (t u : Nat → Int64) : MS := ms M.thr M.wk M.co M.cs M.ro M.ki M.wo M.ri M.fa M.li M.ln M.hr M.st M.dn M.pl M.ou t u M.ag
def mTh (M : MS) (t : Nat) : MS := ms t M.wk M.co M.cs M.ro M.ki M.wo M.ri M.fa M.li M.ln M.hr M.st M.dn M.pl M.ou M.ta M.nx M.ag
def adM (M : MS) (kd wk : Int32) (b : Int64) : MS := ms M.thr M.wk M.co M.cs (M.ro + 1) (upd M.ki M.ro kd) (upd M.wo M.ro wk) (vp_updL M.ri M.ro b) M.fa M.li M.ln M.hr M.st M.dn M.pl M.ou M.ta M.nx M.ag
def atK (co k : Nat) : Nat := if k = co then 12 else k
def cmF (M : MS) (r : Nat) : Nat → Nat → Bool → Bool
  | _, 0, b => b
  | k, n + 1, b => cmF M r (k + 1) n (b && !isGrB (suM M r (atK M.co k)))
def cmX (tu : Bool) (x : Int64) : Int64 := if tu then -x else x
def cmI (M : MS) (r v : Nat) (tu : Bool) : Nat → Nat → (Nat → Int64) → (Nat → Int64)
  | _, 0, t => t
  | k, n + 1, t => cmI M r v tu (k + 1) n (vp_updL t (13 * v + atK M.co k) (cmX tu (suM (mTa M t) r (atK M.co k))))
def tuB (M : MS) (r j : Nat) : Bool := decide (M.ki r = 1) || decide (j = 1)
def cmO (M : MS) (r : Nat) : Nat → Nat → (Nat → Int64) → (Nat → Int64)
  | _, 0, t => t
  | j, n + 1, t => cmO M r (j + 1) n (cmI M r (M.co + M.ln + j) (tuB M r j) 0 (M.co + 1) t)
def cmM (M : MS) (r : Nat) : Bool × MS := if cmF M r 0 (M.co + 1) true then (true, ms M.thr M.wk M.co M.cs M.ro M.ki M.wo M.ri M.fa (va_up M.li r (some (M.co + M.ln))) (M.ln + lnM M.ki r) M.hr M.st M.dn M.pl M.ou (cmO M r 0 (lnM M.ki r) M.ta) M.nx M.ag) else (false, M)
def spX (M : MS) (le q v : Nat) (k : Nat) : Int64 := if k = q then M.ta (13 * v + q) else (M.ta (13 * v + k) * M.ta (13 * le + q) - M.ta (13 * v + q) * M.ta (13 * le + k)) / M.dn
def spI (M : MS) (le q v : Nat) : Nat → Nat → (Nat → Int64) → Bool → (Nat → Int64) × Bool
  | _, 0, t, b => (t, b)
  | k, n + 1, t, b => spI M le q v (k + 1) n (vp_updL t (13 * v + k) (spX M le q v k)) (b && !isGrB (spX M le q v k))
def spO (M : MS) (le q : Nat) : Nat → Nat → (Nat → Int64) → Bool → (Nat → Int64) × Bool
  | _, 0, t, b => (t, b)
  | v, n + 1, t, b => if inB M v ∧ v ≠ le then spO M le q (v + 1) n (spI M le q v 0 13 t b).1 (spI M le q v 0 13 t b).2 else spO M le q (v + 1) n t b
def cpI (nx : Nat → Int64) (v : Nat) : Nat → Nat → (Nat → Int64) → (Nat → Int64)
  | _, 0, t => t
  | k, n + 1, t => cpI nx v (k + 1) n (vp_updL t (13 * v + k) (nx (13 * v + k)))
def cpO (M : MS) (nx : Nat → Int64) (le : Nat) : Nat → Nat → (Nat → Int64) → (Nat → Int64)
  | _, 0, t => t
  | v, n + 1, t => cpO M nx le (v + 1) n (if inB M v ∧ v ≠ le then cpI nx v 0 13 t else t)
def teR (dn : Int64) (le q en : Nat) : Nat → Nat → (Nat → Int64) → (Nat → Int64)
  | _, 0, t => t
  | k, n + 1, t => teR dn le q en (k + 1) n (vp_updL t (13 * en + k) (if k = q then dn else -(t (13 * le + k))))
def spN (M : MS) (le q : Nat) : (Nat → Int64) × Bool := spO M le q 0 37 M.nx (!isGrB (M.ta (13 * le + q)))
def spM (M : MS) (le q : Nat) : Bool × MS := if (spN M le q).2 then (true, ms M.thr M.wk M.co M.cs M.ro M.ki M.wo M.ri M.fa M.li M.ln M.hr (M.st + 1) (M.ta (13 * le + q)) (va_up (va_up M.pl (M.ou q) none) le (some q)) (va_up M.ou q le) (teR M.dn le q (M.ou q) 0 13 (cpO M (spN M le q).1 le 0 37 M.ta)) (spN M le q).1 M.ag) else (false, mNx M (spN M le q).1)
