/-! the states of the class, and what its methods compute, as functions -/
def TS : Type := (Nat → Int64) × (Nat → Int32) × (Nat → Int32) × (Nat → Int64) × (Nat → Int64) × Nat × Nat × Int64
def TS.C (T : TS) : Nat → Int64 := T.1
def TS.I (T : TS) : Nat → Int32 := T.2.1
def TS.O (T : TS) : Nat → Int32 := T.2.2.1
def TS.G (T : TS) : Nat → Int64 := T.2.2.2.1
def TS.S (T : TS) : Nat → Int64 := T.2.2.2.2.1
def TS.w (T : TS) : Nat := T.2.2.2.2.2.1
def TS.h (T : TS) : Nat := T.2.2.2.2.2.2.1
def TS.d (T : TS) : Int64 := T.2.2.2.2.2.2.2
def ts (C : Nat → Int64) (I O : Nat → Int32) (G S : Nat → Int64) (w h : Nat) (d : Int64) : TS := (C, I, O, G, S, w, h, d)
def fnd (f : Nat → Int32) (v : Int32) : Nat → Nat → Option Nat
  | _, 0 => none
  | i, n + 1 => if f i = v then some i else fnd f v (i + 1) n
theorem fnd_lt {f : Nat → Int32} {v : Int32} : ∀ {n i j : Nat}, fnd f v i n = some j → i ≤ j ∧ j < i + n := by
  intro n
  induction n with
  | zero => intro i j h; simp [fnd] at h
  | succ n ih =>
    intro i j h
    simp only [fnd] at h
    split at h
    · cases h; omega
    · have := ih h; omega
def TS.start (T : TS) (v : Int32) : Int64 := match fnd T.I v 1 T.h with
  | none => 0
  | some i => T.C (i * 13 + 0)
def TS.num (T : TS) (i : Nat) (v : Int32) : Int64 := match fnd T.O v 1 T.w with
  | none => 0
  | some k => T.C (i * 13 + k)
def fits9 (v : Int64) : Bool := !(decide (v < -1000000000)) && !(decide (1000000000 < v))
def sumS (T : TS) (F : Nat → Int32) (f0 : Nat) : Nat → Nat → Int64 → Int64
  | _, 0, acc => acc
  | j, n + 1, acc => sumS T F f0 (j + 1) n (acc + (F (f0 + j)).toInt64 * T.start (nI j))
def allF (f : Nat → Int64) : Nat → Nat → Bool
  | _, 0 => true
  | k, n + 1 => fits9 (f k) && allF f (k + 1) n
def tcL (C : Nat → Int64) (i : Nat) (f : Int64) : Nat → Nat → (Nat → Int64) → (Nat → Int64)
  | _, 0, G => G
  | k, n + 1, G => tcL C i f (k + 1) n (vp_updL G k (G k + f * C (i * 13 + k)))
def tcM (T : TS) (v : Int32) (f : Int64) (G : Nat → Int64) : Nat → Int64 := match fnd T.O v 1 T.w with
  | some k => vp_updL G k (G k + f * T.d)
  | none => match fnd T.I v 1 T.h with
    | none => G
    | some i => tcL T.C i f 0 (T.w + 1) G
def fillL (v : Int64) : Nat → Nat → (Nat → Int64) → (Nat → Int64)
  | _, 0, G => G
  | k, n + 1, G => fillL v (k + 1) n (vp_updL G k v)
def teL (T : TS) (F : Nat → Int32) (f0 : Nat) : Nat → Nat → (Nat → Int64) → (Nat → Int64)
  | _, 0, G => G
  | j, n + 1, G => teL T F f0 (j + 1) n (tcM T (nI j) (F (f0 + j)).toInt64 G)
def teE (T : TS) (r : Int64) (G : Nat → Int64) : Nat → Int64 := vp_updL G 0 (G 0 - T.d * r)
def teM (T : TS) (F : Nat → Int32) (f0 : Nat) (r : Int64) : Nat → Int64 := teE T r (teL T F f0 0 T.w (fillL 0 0 13 T.G))
def btL (G : Nat → Int64) (h : Nat) (s : Int64) : Nat → Nat → (Nat → Int64) → (Nat → Int64)
  | _, 0, C => C
  | k, n + 1, C => btL G h s (k + 1) n (vp_updL C (h * 13 + k) (s * G k))
def btM (T : TS) (s : Int32) : TS := if 24 ≤ T.h then T else ts (btL T.G (T.h + 1) s.toInt64 0 (T.w + 1) T.C) (upd T.I (T.h + 1) (nI (T.w + T.h))) T.O T.G T.S T.w (T.h + 1) T.d
def lvB (T : TS) (i : Nat) (b : Option Nat) : Bool := decide (T.C (i * 13 + 0) < 0) && (match b with | none => true | some j => decide (T.I i < T.I j))
def lvM (T : TS) : Nat → Nat → Option Nat → Option Nat
  | _, 0, b => b
  | i, n + 1, b => lvM T (i + 1) n (if lvB T i b then some i else b)
def ebM (T : TS) (le k o : Nat) : Bool := decide (T.C (0 * 13 + k) * T.C (le * 13 + o) < T.C (0 * 13 + o) * T.C (le * 13 + k)) || (decide (T.C (0 * 13 + k) * T.C (le * 13 + o) = T.C (0 * 13 + o) * T.C (le * 13 + k)) && decide (T.O k < T.O o))
def enB (T : TS) (le k : Nat) (b : Option Nat) : Bool := decide (0 < T.C (le * 13 + k)) && (match b with | none => true | some o => ebM T le k o)
def enM (T : TS) (le : Nat) : Nat → Nat → Option Nat → Option Nat
  | _, 0, b => b
  | k, n + 1, b => enM T le (k + 1) n (if enB T le k b then some k else b)
def afM (d v p c w : Int64) : Int64 := if d = 0 then 0 else (v * p - c * w) / d
def otM (T : TS) (i le en : Nat) : Nat → Nat → Bool
  | _, 0 => true
  | k, n + 1 => (if k = en then true else fits9 (afM T.d (T.C (i * 13 + k)) (T.C (le * 13 + en)) (T.C (i * 13 + en)) (T.C (le * 13 + k)))) && otM T i le en (k + 1) n
def sfM (T : TS) (le en : Nat) : Nat → Nat → Bool
  | _, 0 => true
  | i, n + 1 => (if i = le then true else otM T i le en 0 (T.w + 1)) && sfM T le en (i + 1) n
def coL (d : Int64) (i le en : Nat) (p c : Int64) : Nat → Nat → (Nat → Int64) → (Nat → Int64)
  | _, 0, C => C
  | k, n + 1, C => coL d i le en p c (k + 1) n (if k = en then C else vp_updL C (i * 13 + k) (afM d (C (i * 13 + k)) p c (C (le * 13 + k))))
def coM (d : Int64) (w i le en : Nat) (C : Nat → Int64) : Nat → Int64 := coL d i le en (C (le * 13 + en)) (C (i * 13 + en)) 0 (w + 1) C
def chL (d : Int64) (w le en : Nat) : Nat → Nat → (Nat → Int64) → (Nat → Int64)
  | _, 0, C => C
  | i, n + 1, C => chL d w le en (i + 1) n (if i = le then C else coM d w i le en C)
def ceL (d : Int64) (le en : Nat) : Nat → Nat → (Nat → Int64) → (Nat → Int64)
  | _, 0, C => C
  | k, n + 1, C => ceL d le en (k + 1) n (vp_updL C (le * 13 + k) (if k = en then d else -(C (le * 13 + k))))
def chM (T : TS) (le en : Nat) : TS := ts (ceL T.d le en 0 (T.w + 1) (chL T.d T.w le en 0 (T.h + 1) T.C)) (upd T.I le (T.O en)) (upd T.O en (T.I le)) T.G T.S T.w T.h (T.C (le * 13 + en))
def csL (C : Nat → Int64) : Nat → Nat → (Nat → Int64) → (Nat → Int64)
  | _, 0, S => S
  | i, n + 1, S => csL C (i + 1) n (vp_updL S i (C (i * 13 + 0)))
def mcL (C : Nat → Int64) (k : Nat) (by9 : Int64) : Nat → Nat → (Nat → Int64) → (Nat → Int64)
  | _, 0, S => S
  | i, n + 1, S => mcL C k by9 (i + 1) n (vp_updL S i (S i - C (i * 13 + k) * by9))
def mcM (T : TS) (v : Int32) (by9 : Int64) : Nat → Int64 := match fnd T.I v 1 T.h with
  | some i => vp_updL T.S i (T.S i + T.d * by9)
  | none => match fnd T.O v 1 T.w with
    | none => T.S
    | some k => mcL T.C k by9 0 (T.h + 1) T.S
def tkL (S : Nat → Int64) : Nat → Nat → (Nat → Int64) → (Nat → Int64)
  | _, 0, C => C
  | i, n + 1, C => tkL S (i + 1) n (vp_updL C (i * 13 + 0) (S i))
def PS : Type := (Nat → Int32) × (Nat → Int32) × (Nat → Int64) × (Nat → Int32) × Int32 × Nat × Nat × Int32 × Bool × Int32
def PS.K (P : PS) : Nat → Int32 := P.1
def PS.V (P : PS) : Nat → Int32 := P.2.1
def PS.B (P : PS) : Nat → Int64 := P.2.2.1
def PS.L (P : PS) : Nat → Int32 := P.2.2.2.1
def PS.wk (P : PS) : Int32 := P.2.2.2.2.1
def PS.rows (P : PS) : Nat := P.2.2.2.2.2.1
def PS.rin (P : PS) : Nat := P.2.2.2.2.2.2.1
def PS.stp (P : PS) : Int32 := P.2.2.2.2.2.2.2.1
def PS.run (P : PS) : Bool := P.2.2.2.2.2.2.2.2.1
def PS.lat (P : PS) : Int32 := P.2.2.2.2.2.2.2.2.2
def ps (K V : Nat → Int32) (B : Nat → Int64) (L : Nat → Int32) (wk : Int32) (rows rin : Nat) (stp : Int32) (run : Bool) (lat : Int32) : PS := (K, V, B, L, wk, rows, rin, stp, run, lat)
def rwL (V : Nat → Int32) (v : Int32) : Nat → Nat → Nat → Nat
  | _, 0, f => f
  | i, n + 1, f => rwL V v (i + 1) n (if V i = v then f + 1 else f)
def lnM (K : Nat → Int32) (r : Nat) : Nat := if K r = 2 then 2 else 1
def liM (K : Nat → Int32) (rin r : Nat) : Nat := if r < rin then lnM K r else 0
def sgM (K : Nat → Int32) (r j : Nat) : Int32 := if K r = 1 ∨ j = 1 then -1 else 1
def ovM (B : Nat → Int64) (F : Nat → Int32) (T : TS) (r : Nat) : Int64 := sumS T F (r * 12 + 0) 0 T.w 0 - T.d * B r
def ikM (K : Nat → Int32) (B : Nat → Int64) (F : Nat → Int32) (T : TS) (r : Nat) : Bool :=
  if K r = 0 then !(decide (ovM B F T r < 0)) else if K r = 1 then !(decide (0 < ovM B F T r)) else decide (ovM B F T r = 0)
def ckL (K : Nat → Int32) (B : Nat → Int64) (F : Nat → Int32) (T : TS) : Nat → Nat → Nat
  | _, 0 => 0
  | r, n + 1 => if ikM K B F T r then ckL K B F T (r + 1) n else r + 1
def tmM (T : TS) (o : Option Nat) (v : Int32) : Int64 := match o with
  | none => 0
  | some i => if T.I i = v then T.d else -(T.num i v)
def gcL : Nat → Int64 → Int64 → Int64
  | 0, a, _ => a
  | n + 1, a, b => if b = 0 then a else gcL n b (a - a / b * b)
def abL (x : Int64) : Int64 := if 0 < x then x else -x
def ltM (u l : Int64) (part : Int32) : Int64 := if gcL 100 (abL u) l = 0 then (if part = 0 then u else l) else (if part = 0 then u else l) / gcL 100 (abL u) l
def duL (K L : Nat → Int32) (T : TS) (r : Nat) : Nat → Nat → Int64 → Int64
  | _, 0, acc => acc
  | j, n + 1, acc => duL K L T r (j + 1) n (acc + (sgM K r j).toInt64 * T.num 0 (nI T.w + L r + nI j))
def foL (K L : Nat → Int32) (T : TS) (o : Option Nat) (r : Nat) : Nat → Nat → Int64 → Int64
  | _, 0, acc => acc
  | j, n + 1, acc => foL K L T o r (j + 1) n (acc + (sgM K r j).toInt64 * tmM T o (nI T.w + L r + nI j))
def brL (K : Nat → Int32) (r : Nat) : Nat → Nat → TS → TS
  | _, 0, T => T
  | j, n + 1, T => brL K r (j + 1) n (btM T (sgM K r j))
def teT (T : TS) (F : Nat → Int32) (f0 : Nat) (b : Int64) : TS := ts T.C T.I T.O (teM T F f0 b) T.S T.w T.h T.d
def brM (K : Nat → Int32) (B : Nat → Int64) (L F : Nat → Int32) (T : TS) (r : Nat) : Bool × TS × (Nat → Int32) :=
  if allF (teT T F (r * 12 + 0) (B r)).G 0 (T.w + 1) then (true, brL K r 0 (lnM K r) (teT T F (r * 12 + 0) (B r)), upd L r (nI T.h)) else (false, teT T F (r * 12 + 0) (B r), L)
def bwL (K : Nat → Int32) (B : Nat → Int64) (F : Nat → Int32) : Nat → Nat → TS → (Nat → Int32) → Nat → Bool × TS × (Nat → Int32) × Nat
  | _, 0, T, L, q => (true, T, L, q)
  | r, n + 1, T, L, q => if (brM K B L F T r).1 then bwL K B F (r + 1) n (brM K B L F T r).2.1 (brM K B L F T r).2.2 (r + 1) else (false, (brM K B L F T r).2.1, (brM K B L F T r).2.2, q)
def dsL : Nat → TS → Int32 → Int32 × TS × Int32
  | 0, T, s => (2, T, s)
  | n + 1, T, s => match lvM T 1 T.h none with
    | none => (0, T, s)
    | some le => match enM T le 1 T.w none with
      | none => (1, T, s)
      | some en => if n = 0 then (2, T, s) else if sfM T le en 0 (T.h + 1) then dsL n (chM T le en) (s + 1) else (3, T, s)
def mvL (K L : Nat → Int32) (r : Nat) (by9 : Int64) : Nat → Nat → TS → TS
  | _, 0, T => T
  | j, n + 1, T => mvL K L r by9 (j + 1) n (ts T.C T.I T.O T.G (mcM T (nI T.w + L r + nI j) ((-(sgM K r j)).toInt64 * by9)) T.w T.h T.d)
def mvM (K L : Nat → Int32) (T : TS) (r : Nat) (b : Int64) : Bool × TS := (fun T2 : TS => (allF T2.S 0 (T2.h + 1), ts (if allF T2.S 0 (T2.h + 1) then tkL T2.S 0 (T2.h + 1) T2.C else T2.C) T2.I T2.O T2.G T2.S T2.w T2.h T2.d)) (mvL K L r b 0 (lnM K r) (ts T.C T.I T.O T.G (csL T.C 0 (T.h + 1) T.S) T.w T.h T.d))
theorem lnM_le (K : Nat → Int32) (r : Nat) : lnM K r ≤ 2 := by unfold lnM; split <;> omega
theorem btM_w (T : TS) (s : Int32) : (btM T s).w = T.w := by unfold btM; split <;> rfl
theorem btM_h {T : TS} {s : Int32} (h : T.h ≤ 24) : (btM T s).h ≤ 24 := by
  unfold btM
  split
  · exact h
  · show T.h + 1 ≤ 24
    omega
theorem brL_w (K : Nat → Int32) (r : Nat) : ∀ (n j : Nat) (T : TS), (brL K r j n T).w = T.w := by
  intro n
  induction n with
  | zero => intro j T; rfl
  | succ n ih => intro j T; rw [brL, ih, btM_w]
theorem brL_h (K : Nat → Int32) (r : Nat) : ∀ (n j : Nat) (T : TS), T.h ≤ 24 → (brL K r j n T).h ≤ 24 := by
  intro n
  induction n with
  | zero => intro j T h; exact h
  | succ n ih => intro j T h; rw [brL]; exact ih _ _ (btM_h h)
theorem brM_w (K : Nat → Int32) (B : Nat → Int64) (L F : Nat → Int32) (T : TS) (r : Nat) : (brM K B L F T r).2.1.w = T.w := by
  unfold brM
  split
  · exact brL_w K r _ _ _
  · rfl
theorem brM_h {K : Nat → Int32} {B : Nat → Int64} {L F : Nat → Int32} {T : TS} {r : Nat} (h : T.h ≤ 24) : (brM K B L F T r).2.1.h ≤ 24 := by
  unfold brM
  split
  · exact brL_h K r _ _ _ h
  · exact h
theorem lvM_lt9 {T : TS} : ∀ (n i : Nat) (b : Option Nat) (j : Nat), lvM T i n b = some j → (∃ z, b = some z ∧ z = j) ∨ (i ≤ j ∧ j < i + n) := by
  intro n
  induction n with
  | zero => intro i b j h; exact Or.inl ⟨j, h, rfl⟩
  | succ n ih =>
    intro i b j h
    rw [lvM] at h
    rcases ih _ _ _ h with ⟨z, h1, h2⟩ | h1
    · split at h1
      · cases h1; right; omega
      · left; exact ⟨z, h1, h2⟩
    · right; omega
theorem lvM_lt {T : TS} {j : Nat} (h : lvM T 1 T.h none = some j) : 1 ≤ j ∧ j ≤ T.h := by
  rcases lvM_lt9 _ _ _ _ h with ⟨z, h1, -⟩ | h1
  · cases h1
  · omega
theorem enM_lt9 {T : TS} {le : Nat} : ∀ (n i : Nat) (b : Option Nat) (j : Nat), enM T le i n b = some j → (∃ z, b = some z ∧ z = j) ∨ (i ≤ j ∧ j < i + n) := by
  intro n
  induction n with
  | zero => intro i b j h; exact Or.inl ⟨j, h, rfl⟩
  | succ n ih =>
    intro i b j h
    rw [enM] at h
    rcases ih _ _ _ h with ⟨z, h1, h2⟩ | h1
    · split at h1
      · cases h1; right; omega
      · left; exact ⟨z, h1, h2⟩
    · right; omega
theorem enM_lt {T : TS} {le j : Nat} (h : enM T le 1 T.w none = some j) : 1 ≤ j ∧ j ≤ T.w := by
  rcases enM_lt9 _ _ _ _ h with ⟨z, h1, -⟩ | h1
  · cases h1
  · omega
