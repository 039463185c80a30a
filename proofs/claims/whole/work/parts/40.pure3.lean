theorem liM_le (K : Nat → Int32) (q r : Nat) : liM K q r ≤ 2 := by
  unfold liM
  split
  · exact lnM_le K r
  · omega
def rtM (P : PS) (T : TS) (r : Nat) (v : Int64) : Bool × PS × TS := if P.rin ≤ r then (true, ps P.K P.V (vp_updL P.B r v) P.L P.wk P.rows P.rin P.stp P.run (-1), T) else ((mvM P.K P.L T r (v - P.B r)).1, if (mvM P.K P.L T r (v - P.B r)).1 = true then ps P.K P.V (vp_updL P.B r v) P.L P.wk P.rows P.rin P.stp P.run (-1) else P, (mvM P.K P.L T r (v - P.B r)).2)
theorem bwL_w {K : Nat → Int32} {B : Nat → Int64} {F : Nat → Int32} : ∀ (n r : Nat) (T : TS) (L : Nat → Int32) (q : Nat), (bwL K B F r n T L q).2.1.w = T.w := by
  intro n
  induction n with
  | zero => intro r T L q; rfl
  | succ n ih =>
    intro r T L q
    rw [bwL]
    split
    · rw [ih, brM_w]
    · exact brM_w _ _ _ _ _ _
theorem bwL_h9 {K : Nat → Int32} {B : Nat → Int64} {F : Nat → Int32} : ∀ (n r : Nat) (T : TS) (L : Nat → Int32) (q : Nat), T.h ≤ 24 → (bwL K B F r n T L q).2.1.h ≤ 24 := by
  intro n
  induction n with
  | zero => intro r T L q h; exact h
  | succ n ih =>
    intro r T L q h
    rw [bwL]
    split
    · exact ih _ _ _ _ (brM_h h)
    · exact brM_h h
theorem bwL_h {K : Nat → Int32} {B : Nat → Int64} {F : Nat → Int32} {n r : Nat} {T : TS} {L : Nat → Int32} {q : Nat} (h : T.h ≤ 24) : (bwL K B F r n T L q).2.1.h ≤ 24 := bwL_h9 _ _ _ _ _ h
def bwP (P : PS) (F : Nat → Int32) (T : TS) : Bool × TS × (Nat → Int32) × Nat := bwL P.K P.B F P.rin (P.rows - P.rin) T P.L P.rin
def dsP (P : PS) (F : Nat → Int32) (T : TS) (mo : Nat) : Int32 × TS × Int32 := dsL (mo + 1) (bwP P F T).2.1 P.stp
def ruPT (P : PS) (F : Nat → Int32) (T : TS) (mo : Nat) : PS := ps P.K P.V P.B (bwP P F T).2.2.1 P.wk P.rows (bwP P F T).2.2.2 (dsP P F T mo).2.2 true (dsP P F T mo).1
def ruPF (P : PS) (F : Nat → Int32) (T : TS) : PS := ps P.K P.V P.B (bwP P F T).2.2.1 P.wk P.rows (bwP P F T).2.2.2 P.stp true 3
def ruP (P : PS) (F : Nat → Int32) (T : TS) (mo : Nat) : Int32 × PS × TS := if (bwP P F T).1 = true then ((dsP P F T mo).1, ruPT P F T mo, (dsP P F T mo).2.1) else (3, ruPF P F T, (bwP P F T).2.1)
