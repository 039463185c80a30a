/-! the state of the reference (in four groups: comparing long tuples costs the kernel too much) -/
def MS : Type := (Nat × Int32 × Nat × (Nat → Int64) × Nat) × ((Nat → Int32) × (Nat → Int32) × (Nat → Int64) × (Nat → Int64) × (Nat → Option Nat)) × (Nat × Bool × Int32 × Int64 × (Nat → Option Nat)) × ((Nat → Nat) × (Nat → Int64) × (Nat → Int64) × (Option Nat))
def MS.thr (M : MS) : Nat := M.1.1
def MS.wk (M : MS) : Int32 := M.1.2.1
def MS.co (M : MS) : Nat := M.1.2.2.1
def MS.cs (M : MS) : Nat → Int64 := M.1.2.2.2.1
def MS.ro (M : MS) : Nat := M.1.2.2.2.2
def MS.ki (M : MS) : Nat → Int32 := M.2.1.1
def MS.wo (M : MS) : Nat → Int32 := M.2.1.2.1
def MS.ri (M : MS) : Nat → Int64 := M.2.1.2.2.1
def MS.fa (M : MS) : Nat → Int64 := M.2.1.2.2.2.1
def MS.li (M : MS) : Nat → Option Nat := M.2.1.2.2.2.2
def MS.ln (M : MS) : Nat := M.2.2.1.1
def MS.hr (M : MS) : Bool := M.2.2.1.2.1
def MS.st (M : MS) : Int32 := M.2.2.1.2.2.1
def MS.dn (M : MS) : Int64 := M.2.2.1.2.2.2.1
def MS.pl (M : MS) : Nat → Option Nat := M.2.2.1.2.2.2.2
def MS.ou (M : MS) : Nat → Nat := M.2.2.2.1
def MS.ta (M : MS) : Nat → Int64 := M.2.2.2.2.1
def MS.nx (M : MS) : Nat → Int64 := M.2.2.2.2.2.1
def MS.ag (M : MS) : Option Nat := M.2.2.2.2.2.2
def ms (thr : Nat) (wk : Int32) (co : Nat) (cs : Nat → Int64) (ro : Nat) (ki : Nat → Int32) (wo : Nat → Int32) (ri : Nat → Int64) (fa : Nat → Int64) (li : Nat → Option Nat) (ln : Nat) (hr : Bool) (st : Int32) (dn : Int64) (pl : Nat → Option Nat) (ou : Nat → Nat) (ta : Nat → Int64) (nx : Nat → Int64) (ag : Option Nat) : MS := ((thr, wk, co, cs, ro), (ki, wo, ri, fa, li), (ln, hr, st, dn, pl), (ou, ta, nx, ag))
def encF (f : Nat → Option Nat) : Nat → Int32 := fun j => enc (f j)
def nIF (f : Nat → Nat) : Nat → Int32 := fun j => nI (f j)
theorem encF_up (f : Nat → Option Nat) (k : Nat) (o : Option Nat) : upd (encF f) k (enc o) = encF (va_up f k o) := by
  funext j; by_cases h : j = k <;> simp [upd, encF, va_up, h]
theorem nIF_up (f : Nat → Nat) (k x : Nat) : upd (nIF f) k (nI x) = nIF (va_up f k x) := by
  funext j; by_cases h : j = k <;> simp [upd, nIF, va_up, h]
def MW (mo : Nat → Nat) (km : Nat → ClassId) (M : MS) : va_W := [(mo 0, .inr (2, [.int (nI M.thr), .int M.wk, .int (nI M.co), .ref (mo 1), .int (nI M.ro), .ref (mo 2), .ref (mo 3), .ref (mo 4), .ref (mo 5), .ref (mo 6), .int (nI M.ln), .int (bI M.hr), .int M.st, .long M.dn, .ref (mo 7), .ref (mo 8), .ref (mo 9), .ref (mo 10), .int (enc M.ag)])), (mo 1, .inl (km 1, 12, .inr (.inl M.cs))), (mo 2, .inl (km 2, 12, .inl M.ki)), (mo 3, .inl (km 3, 12, .inl M.wo)), (mo 4, .inl (km 4, 12, .inr (.inl M.ri))), (mo 5, .inl (km 5, 144, .inr (.inl M.fa))), (mo 6, .inl (km 6, 12, .inl (encF M.li))), (mo 7, .inl (km 7, 37, .inl (encF M.pl))), (mo 8, .inl (km 8, 12, .inl (nIF M.ou))), (mo 9, .inl (km 9, 481, .inr (.inl M.ta))), (mo 10, .inl (km 10, 481, .inr (.inl M.nx)))]
def MK (km : Nat → ClassId) : List (ClassId × FieldType) := [(km 1, .long), (km 2, .int), (km 3, .int), (km 4, .long), (km 5, .long), (km 6, .int), (km 7, .int), (km 8, .int), (km 9, .long), (km 10, .long)]
def isInB (v a b : Int64) : Bool := !(decide (v < a)) && !(decide (b < v))
def isGrB (v : Int64) : Bool := decide (1000000000 < v) || decide (v < -1000000000)
def mvR (M : MS) (v q : Nat) (b : Int64) : Int64 := match M.pl q with
  | none => if v = q then -M.dn * b else 0
  | some k => M.ta (13 * v + k) * b
def inB (M : MS) (v : Nat) : Bool := decide (v = 36) || (decide (v < M.co + M.ln) && (M.pl v).isNone)
def ptR (M : MS) (c q : Nat) : Int64 := match M.pl c with
  | none => M.ta (13 * c + q)
  | some k => if k = q then M.dn else 0
def suL (M : MS) (r q : Nat) : Nat → Nat → Int64 → Int64
  | _, 0, acc => acc
  | c, n + 1, acc => suL M r q (c + 1) n (acc + M.fa (12 * r + c) * ptR M c q)
def suM (M : MS) (r q : Nat) : Int64 := suL M r q 0 M.co (if q = 12 then -M.dn * M.ri r else 0)
def lvR (M : MS) : Nat → Nat → Option Nat
  | _, 0 => none
  | v, n + 1 => if M.pl v = none ∧ M.ta (13 * v + 12) < 0 then some v else lvR M (v + 1) n
def ebR (M : MS) (le k o : Nat) : Bool := decide (M.ta (468 + k) * M.ta (13 * le + o) < M.ta (468 + o) * M.ta (13 * le + k)) || (decide (M.ta (468 + k) * M.ta (13 * le + o) = M.ta (468 + o) * M.ta (13 * le + k)) && decide (M.ou k < M.ou o))
def enS (M : MS) (le k : Nat) (b : Option Nat) : Option Nat := if 0 < M.ta (13 * le + k) then (match b with | none => some k | some o => if ebR M le k o then some k else some o) else b
def enR (M : MS) (le : Nat) : Nat → Nat → Option Nat → Option Nat
  | _, 0, b => b
  | k, n + 1, b => enR M le (k + 1) n (enS M le k b)
def szR (v : Int64) : Int64 := if v < 0 then -v else v
def gcZ : Nat → Int64 → Int64 → Bool
  | 0, _, b => decide (b = 0)
  | n + 1, a, b => if b = 0 then true else gcZ n b (a - a / b * b)
def frR (u d : Int64) (pt : Int32) : Int64 := (if pt = 0 then u else d) / gcL 100 (szR u) d
def paB (pt : Int32) : Bool := decide (pt = 0) || decide (pt = 1)
def amR (M : MS) (c : Nat) : Int64 := match M.pl c with
  | none => M.ta (13 * c + 12)
  | some _ => 0
def prR (M : MS) (q : Nat) : Int64 := match M.pl q with
  | none => 0
  | some k => M.ta (468 + k)
def weR (M : MS) (g q : Nat) : Int64 := if q = g then M.dn else match M.pl q with
  | none => 0
  | some k => -M.ta (13 * g + k)
theorem gcL_z {n : Nat} {a : Int64} : gcL n a 0 = a := by
  cases n
  · rfl
  · simp [gcL]
theorem lvR_lt {M : MS} : ∀ {n v j : Nat}, lvR M v n = some j → v ≤ j ∧ j < v + n := by
  intro n
  induction n with
  | zero => intro v j h; simp [lvR] at h
  | succ n ih =>
    intro v j h
    rw [lvR] at h
    split at h
    · cases h; omega
    · have := ih h; omega
theorem enS_lt {M : MS} {le k j : Nat} {b : Option Nat} (h : enS M le k b = some j) : j = k ∨ b = some j := by
  unfold enS at h
  split at h
  · split at h
    · cases h; exact Or.inl rfl
    · split at h
      · cases h; exact Or.inl rfl
      · cases h; exact Or.inr rfl
  · exact Or.inr h
theorem enR_lt {M : MS} {le : Nat} : ∀ {n k j : Nat} {b : Option Nat}, enR M le k n b = some j → (∀ q, b = some q → q < k) → j < k + n := by
  intro n
  induction n with
  | zero => intro k j b h hb; exact hb j h
  | succ n ih =>
    intro k j b h hb
    rw [enR] at h
    have := ih h (fun q hq => by
      rcases enS_lt hq with h1 | h1
      · omega
      · have := hb q h1; omega)
    omega
