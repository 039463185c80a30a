/-! the whole relation, and what each call does on both sides -/
def Rp (P : PS) (F : Nat → Int32) (M : MS) : Prop := (M.wk = P.wk ∧ 1 ≤ P.wk.toInt ∧ P.wk.toInt ≤ 60) ∧ (M.ro = P.rows ∧ P.rows ≤ 12 ∧ P.rin ≤ P.rows) ∧ (M.ki = P.K ∧ M.wo = P.V ∧ M.ri = P.B ∧ ∀ i, M.fa i = (F i).toInt64) ∧ (∀ r, r < P.rows → P.K r = 0 ∨ P.K r = 1 ∨ P.K r = 2) ∧ (M.hr = P.run ∧ M.st = P.stp) ∧ (∀ r, r < P.rin → P.L r = nI (lsum P.K r))
def Rg (P : PS) (T : TS) (M : MS) : Prop := (P.lat = 1 → ∃ i, lvM T 1 T.h none = some i ∧ M.ag = some (vr T i)) ∧ (¬ P.lat = 1 → M.ag = none) ∧ (P.run = false → P.rin = 0 ∧ ¬ P.lat = 1)
def Rel (P : PS) (F : Nat → Int32) (T : TS) (M : MS) : Prop := Rt T M ∧ Rr P.K P.rin T M ∧ Rp P F M ∧ Rg P T M
def kCo (P : PS) (T : TS) (v : Int64) : Nat := if P.run = true ∨ 12 ≤ T.w then 1 else if v < 0 ∨ 1000 < v then 2 else 0
def tCo (P : PS) (T : TS) (v : Int64) : TS := if kCo P T v = 0 then ts (vp_updL T.C (0 * 13 + (T.w + 1)) v) T.I (upd T.O (T.w + 1) (nI T.w)) T.G T.S (T.w + 1) T.h T.d else T
def kRo (P : PS) (kd wk : Int32) (b : Int64) : Nat := if 12 ≤ P.rows then 1 else if kd < 0 ∨ 2 < kd ∨ wk < 0 ∨ ¬ wk < P.wk ∨ b < -1000000 ∨ 1000000 < b then 2 else 0
def pRo (P : PS) (kd wk : Int32) (b : Int64) : PS := if kRo P kd wk b = 0 then ps (upd P.K P.rows kd) (upd P.V P.rows wk) (vp_updL P.B P.rows b) P.L P.wk (P.rows + 1) P.rin P.stp P.run P.lat else P
def kFa (P : PS) (T : TS) (x y v : Int32) : Nat := match idx P.rows x with
  | none => 1
  | some r => match idx T.w y with
    | none => 1
    | some _ => if r < P.rin then 2 else if v < -1000 ∨ 1000 < v then 3 else 0
def iFa (P : PS) (T : TS) (x y : Int32) : Nat := match idx P.rows x with
  | none => 0
  | some r => match idx T.w y with
    | none => 0
    | some j => r * 12 + j
def fFa (P : PS) (F : Nat → Int32) (T : TS) (x y v : Int32) : Nat → Int32 := if kFa P T x y v = 0 then upd F (iFa P T x y) v else F
def kCu (P : PS) (T : TS) (x y : Int32) : Nat := match idx T.w x with
  | none => 1
  | some i => match idx T.w y with
    | none => 1
    | some j => if 12 ≤ P.rows then 2 else if i = j then 3 else 0
def pCu (P : PS) (T : TS) (x y : Int32) : PS := if kCu P T x y = 0 then ps (upd P.K P.rows 1) (upd P.V P.rows 0) (vp_updL P.B P.rows 1) P.L P.wk (P.rows + 1) P.rin P.stp P.run P.lat else P
def fCu (P : PS) (F : Nat → Int32) (T : TS) (x y : Int32) : Nat → Int32 := if kCu P T x y = 0 then upd (upd F (P.rows * 12 + ((idx T.w x).getD 0)) 1) (P.rows * 12 + ((idx T.w y).getD 0)) 1 else F
def kRi (P : PS) (x : Int32) (v : Int64) : Nat := match idx P.rows x with
  | none => 1
  | some _ => if v < -1000000 ∨ 1000000 < v then 2 else 0
def sRi (P : PS) (T : TS) (x : Int32) (v : Int64) : Bool × PS × TS := if kRi P x v = 0 then rtM P T ((idx P.rows x).getD 0) v else (false, P, T)
def kRu (x : Int32) : Nat := match idx 1001 x with
  | none => 1
  | some _ => 0
def sRu (P : PS) (F : Nat → Int32) (T : TS) (x : Int32) : Int32 × PS × TS := match idx 1001 x with
  | none => (0, P, T)
  | some mo => ruP P F T mo
def ptOK (pt : Int32) : Prop := pt = 0 ∨ pt = 1
def kVa (pt : Int32) : Nat := if pt = 0 ∨ pt = 1 then 0 else 1
def kSh (n : Nat) (x pt : Int32) : Nat := match idx n x with
  | none => 1
  | some _ => if pt = 0 ∨ pt = 1 then 0 else 2
def kFo (P : PS) (x pt : Int32) : Nat := match idx P.rows x with
  | none => 1
  | some _ => if P.lat = 1 then (if pt = 0 ∨ pt = 1 then 0 else 3) else 2
theorem Rel.th {P : PS} {F : Nat → Int32} {T : TS} {M : MS} (R : Rel P F T M) (t : Nat) : Rel P F T (mTh M t) := R
/-- what the contracts ask of the states -/
theorem Rel.lim {P : PS} {F : Nat → Int32} {T : TS} {M : MS} (R : Rel P F T M) : M.co = T.w ∧ M.ro = P.rows ∧ T.w ≤ 12 ∧ T.h ≤ 24 ∧ P.rows ≤ 12 ∧ P.rin ≤ P.rows ∧ M.co + M.ln ≤ 36 ∧ (∀ v k, M.pl v = some k → k < 12) ∧ (∀ r v, M.li r = some v → v < 36) ∧ (∀ k, M.ou k < 36) ∧ (∀ u, gcZ 100 (szR u) M.dn = true ∧ ¬ gcL 100 (szR u) M.dn = 0) ∧ (∀ g, M.ag = some g → g < 36) := by
  obtain ⟨Rt0, Rr0, Rp0, Rg0⟩ := R
  have R2 := Rt0
  obtain ⟨⟨a1, a2, a3, hw, hh⟩, hI, hJ, hU, hO, hP, hC, hZ, hF⟩ := R2
  refine ⟨a1, Rp0.2.1.1, hw, hh, Rp0.2.1.2.1, Rp0.2.1.2.2, by omega, hP.2.1, Rr0.2.2, hP.2.2, fun u => by rw [a3]; exact hz_of hF.2.1 hF.2.2 u, fun g hg => ?_⟩
  by_cases hl : P.lat = 1
  · obtain ⟨i, h1, h2⟩ := Rg0.1 hl
    rw [hg] at h2
    cases h2
    obtain ⟨h3, h4⟩ := lvM_lt h1
    have := (hI i h3 h4).1
    omega
  · rw [Rg0.2.1 hl] at hg
    cases hg
theorem in_of (v a b : Int64) : isInB v a b = true ↔ ¬ v < a ∧ ¬ b < v := by
  unfold isInB
  rw [Bool.and_eq_true, Bool.not_eq_true', Bool.not_eq_true', decide_eq_false_iff_not, decide_eq_false_iff_not]
theorem i64_lt {x y : Int32} : x.toInt64 < y.toInt64 ↔ x < y := by
  rw [Int64.lt_iff_toInt_lt, i64_i32, i64_i32, Int32.lt_iff_toInt_lt]
section
variable {P : PS} {F : Nat → Int32} {T : TS} {M : MS}
theorem o_column (R : Rel P F T M) (v : Int64) : (clM M v).2.thr = kCo P T v ∧ Rel P F (tCo P T v) (clM M v).2 ∧ (kCo P T v = 0 → (clM M v).1 = nI T.w) := by
  have R0 := R
  obtain ⟨Rt0, Rr0, Rp0, Rg0⟩ := R
  have R2 := Rt0
  obtain ⟨⟨a1, a2, a3, hw, hh⟩, hI, hJ, hU, hO, hP, hC, hZ, hF⟩ := R2
  have hhr := Rp0.2.2.2.2.1.1
  have ek : coC M v = kCo P T v := by
    unfold coC kCo
    rw [hhr, a1]
    by_cases h1 : P.run = true
    · rw [if_pos h1, if_pos (Or.inl h1)]
      split <;> rfl
    · rw [if_neg h1]
      by_cases h2 : T.w = 12
      · rw [if_pos h2, if_pos (Or.inr (by omega))]
      · have n1 : ¬ (P.run = true ∨ 12 ≤ T.w) := by
          intro z
          rcases z with z | z
          · exact h1 z
          · omega
        rw [if_neg h2, if_neg n1]
        by_cases h3 : v < 0 ∨ 1000 < v
        · rw [if_pos h3, if_neg]
          intro z
          rw [in_of] at z
          rcases h3 with h3 | h3
          · exact z.1 h3
          · exact z.2 h3
        · rw [if_neg h3, if_pos]
          rw [in_of]
          exact ⟨fun z => h3 (Or.inl z), fun z => h3 (Or.inr z)⟩
  unfold clM tCo
  rw [ek]
  by_cases h0 : kCo P T v = 0
  · rw [if_pos h0, if_pos h0]
    refine ⟨h0.symm, ?_, fun _ => by rw [a1]⟩
    unfold kCo at h0
    have n1 : ¬ (P.run = true ∨ 12 ≤ T.w) := fun z => by rw [if_pos z] at h0; cases h0
    rw [if_neg n1] at h0
    have n2 : ¬ (v < 0 ∨ 1000 < v) := fun z => by rw [if_pos z] at h0; cases h0
    have hru : P.run = false := Bool.eq_false_iff.mpr (fun z => n1 (Or.inl z))
    have hw2 : T.w < 12 := by omega
    obtain ⟨g1, g2⟩ := Rg0.2.2 hru
    have hh0 : T.h = 0 := by rw [Rr0.1, g1]; rfl
    have hfv : fits9 v = true := by
      rw [f9_iff]
      have e1 : ¬ v.toInt < 0 := fun z => n2 (Or.inl (Int64.lt_iff_toInt_lt.mpr z))
      have e2 : ¬ (1000 : Int) < v.toInt := fun z => n2 (Or.inr (Int64.lt_iff_toInt_lt.mpr z))
      omega
    have hpn : ∀ x, x < T.w → M.pl x ≠ none := fun x hx z => by
      obtain ⟨i, h1, h2, h3⟩ := hJ x (by omega) z
      omega
    refine ⟨⟨⟨by show M.co + 1 = T.w + 1; rw [a1], a2, a3, hw2, hh⟩, ?_, ?_, ?_, ?_, ?_, ?_, ?_, ?_⟩, ?_, Rp0, ?_⟩
    · intro i h1 h2
      have h2 : i ≤ T.h := h2
      omega
    · intro x h1 h2
      have h1 : x < T.w + 1 + T.h := h1
      have h2 : (if x = M.co then some M.co else M.pl x) = none := h2
      by_cases h3 : x = M.co
      · rw [if_pos h3] at h2; cases h2
      · rw [if_neg h3] at h2
        exact absurd h2 (hpn x (by omega))
    · intro i j h1 h2
      have h2 : i ≤ T.h := h2
      omega
    · intro k hk
      have hk : k < T.w + 1 := hk
      show upd T.O (T.w + 1) (nI T.w) (k + 1) = nI (if k = M.co then M.co else M.ou k) ∧ (if k = M.co then M.co else M.ou k) < T.w + 1 + T.h ∧ (if (if k = M.co then M.co else M.ou k) = M.co then some M.co else M.pl (if k = M.co then M.co else M.ou k)) = some k
      by_cases h1 : k = M.co
      · rw [if_pos h1, if_pos rfl, h1, a1, pk_us]
        exact ⟨rfl, by omega, rfl⟩
      · obtain ⟨g3, g4, g5⟩ := hO k (by omega)
        rw [if_neg h1, if_neg (by omega), pk_un (by omega)]
        exact ⟨g3, by omega, g5⟩
    · refine ⟨fun x k hx h => ?_, fun x k h => ?_, fun k => ?_⟩
      · have h : (if x = M.co then some M.co else M.pl x) = some k := h
        show k < T.w + 1 ∧ (if k = M.co then M.co else M.ou k) = x
        by_cases h3 : x = M.co
        · rw [if_pos h3] at h
          have := Option.some.inj h
          exact ⟨by omega, by rw [if_pos this.symm]; omega⟩
        · rw [if_neg h3] at h
          obtain ⟨g3, g4⟩ := hP.1 x k hx h
          exact ⟨by omega, by rw [if_neg (by omega)]; exact g4⟩
      · have h : (if x = M.co then some M.co else M.pl x) = some k := h
        by_cases h3 : x = M.co
        · rw [if_pos h3] at h
          have := Option.some.inj h
          omega
        · rw [if_neg h3] at h
          exact hP.2.1 x k h
      · show (if k = M.co then M.co else M.ou k) < 36
        split
        · omega
        · exact hP.2.2 k
    · intro i hi y hy
      have hi : i ≤ T.h := hi
      have hy : y < T.w + 1 ∨ y = 12 := hy
      have hi0 : i = 0 := by omega
      subst hi0
      show vp_updL M.ta (468 + M.co) v (468 + y) = vp_updL T.C (0 * 13 + (T.w + 1)) v (0 * 13 + plc y)
      by_cases h1 : y = T.w
      · rw [h1, a1, pk_uLs, plc, if_neg (by omega), pk_uLs]
      · rw [pk_uLn (by omega), pk_uLn (by unfold plc; split <;> omega)]
        exact hC 0 (by omega) y (by omega)
    · intro x y hx h1 h2
      have h1 : T.w + 1 ≤ y := h1
      show vp_updL M.ta (468 + M.co) v (13 * x + y) = 0
      rw [pk_uLn (by omega)]
      exact hZ x y hx (by omega) h2
    · refine ⟨fun i hi y hy => ?_, hF.2⟩
      have hi : i ≤ T.h := hi
      have hy : y ≤ T.w + 1 := hy
      show fits9 (vp_updL T.C (0 * 13 + (T.w + 1)) v (i * 13 + y)) = true
      unfold vp_updL
      split
      · exact hfv
      · exact hF.1 i hi y (by omega)
    · refine ⟨Rr0.1, fun r hr => ?_, Rr0.2.2⟩
      show M.li r = _
      rw [Rr0.2.1 r hr, if_neg (by omega), if_neg (by omega)]
    · exact ⟨fun z => absurd z g2, Rg0.2.1, Rg0.2.2⟩
  · rw [if_neg h0, if_neg h0]
    exact ⟨rfl, R0, fun z => absurd z h0⟩
theorem rel_add (R : Rel P F T M) (kd wk : Int32) (b : Int64) (F2 : Nat → Int32) (M2 : MS) (hr : P.rows < 12) (hk : kd = 0 ∨ kd = 1 ∨ kd = 2) (b1 : M2.wk = M.wk) (b2 : M2.co = M.co) (b3 : M2.ro = M.ro + 1) (b4 : M2.ki = upd M.ki M.ro kd) (b5 : M2.wo = upd M.wo M.ro wk) (b6 : M2.ri = vp_updL M.ri M.ro b) (b7 : ∀ i, M2.fa i = (F2 i).toInt64) (b8 : M2.li = M.li) (b9 : M2.ln = M.ln) (b10 : M2.hr = M.hr) (b11 : M2.st = M.st) (b12 : M2.dn = M.dn) (b13 : M2.pl = M.pl) (b14 : M2.ou = M.ou) (b15 : M2.ta = M.ta) (b16 : M2.ag = M.ag) : Rel (ps (upd P.K P.rows kd) (upd P.V P.rows wk) (vp_updL P.B P.rows b) P.L P.wk (P.rows + 1) P.rin P.stp P.run P.lat) F2 T M2 := by
  obtain ⟨Rt0, Rr0, ⟨⟨c1, c2, c3⟩, ⟨c4, c5, c6⟩, ⟨c7, c8, c9, c10⟩, c11, ⟨c12, c13⟩, c14⟩, Rg0⟩ := R
  refine ⟨?_, ?_, ⟨⟨b1.trans c1, c2, c3⟩, ⟨by rw [b3, c4]; rfl, hr, show P.rin ≤ P.rows + 1 by omega⟩, ⟨by rw [b4, c7, c4]; rfl, by rw [b5, c8, c4]; rfl, by rw [b6, c9, c4]; rfl, b7⟩, fun r hr2 => ?_, ⟨b10.trans c12, b11.trans c13⟩, fun r hr2 => ?_⟩, ?_⟩
  · unfold Rt RtA RtI RtJ RtO RtP RtC RtZ
    rw [b2, b9, b12, b13, b14, b15]
    exact Rt0
  · show T.h = lsum (upd P.K P.rows kd) P.rin ∧ (∀ r, r < 12 → M2.li r = if r < P.rin then some (T.w + lsum (upd P.K P.rows kd) r) else none) ∧ _
    rw [lsum_upd _ _ _ _ c6, b8]
    refine ⟨Rr0.1, fun r hr2 => ?_, Rr0.2.2⟩
    rw [Rr0.2.1 r hr2]
    by_cases h1 : r < P.rin
    · rw [if_pos h1, if_pos h1, lsum_upd _ _ _ _ (by omega)]
    · rw [if_neg h1, if_neg h1]
  · have hr2 : r < P.rows + 1 := hr2
    show upd P.K P.rows kd r = 0 ∨ upd P.K P.rows kd r = 1 ∨ upd P.K P.rows kd r = 2
    by_cases h1 : r = P.rows
    · rw [h1, pk_us]; exact hk
    · rw [pk_un h1]; exact c11 r (by omega)
  · have hr2 : r < P.rin := hr2
    show P.L r = nI (lsum (upd P.K P.rows kd) r)
    rw [lsum_upd _ _ _ _ (by omega)]
    exact c14 r hr2
  · unfold Rg
    rw [b16]
    exact Rg0
theorem kd_cases {kd : Int32} (h1 : ¬ kd < 0) (h2 : ¬ 2 < kd) : kd = 0 ∨ kd = 1 ∨ kd = 2 := by
  rw [Int32.lt_iff_toInt_lt] at h1 h2
  have e0 : (0 : Int32).toInt = 0 := by decide
  have e2 : (2 : Int32).toInt = 2 := by decide
  have e1 : (1 : Int32).toInt = 1 := by decide
  rw [e0] at h1
  rw [e2] at h2
  rw [← Int32.toInt_inj, ← Int32.toInt_inj, ← Int32.toInt_inj, e0, e1, e2]
  omega
theorem o_row (R : Rel P F T M) (kd wk : Int32) (b : Int64) : (rwM M kd wk b).2.thr = kRo P kd wk b ∧ Rel (pRo P kd wk b) F T (rwM M kd wk b).2 ∧ (kRo P kd wk b = 0 → (rwM M kd wk b).1 = nI P.rows) := by
  have R0 := R
  obtain ⟨Rt0, Rr0, ⟨⟨c1, c2, c3⟩, ⟨c4, c5, c6⟩, ⟨c7, c8, c9, c10⟩, c11, ⟨c12, c13⟩, c14⟩, Rg0⟩ := R
  have ew : isInB wk.toInt64 0 ((M.wk - 1).toInt64) = true ↔ ¬ wk < 0 ∧ wk < P.wk := by
    have e1 : (P.wk - 1).toInt = P.wk.toInt - 1 := by
      rw [Int32.toInt_sub]
      have : (1 : Int32).toInt = 1 := by decide
      rw [this]
      exact Int.bmod_eq_of_le_mul_two (by omega) (by omega)
    rw [in_of, c1]
    have e2 : ((0 : Int64)) = (0 : Int32).toInt64 := by decide
    rw [e2, i64_lt, i64_lt, Int32.lt_iff_toInt_lt (x := P.wk - 1), Int32.lt_iff_toInt_lt (x := wk) (y := P.wk), e1]
    refine ⟨fun z => ⟨z.1, ?_⟩, fun z => ⟨z.1, ?_⟩⟩
    · have := z.2; omega
    · have := z.2; omega
  have ekd : isInB kd.toInt64 0 2 = true ↔ ¬ kd < 0 ∧ ¬ 2 < kd := by
    rw [in_of]
    have e2 : ((0 : Int64)) = (0 : Int32).toInt64 := by decide
    have e3 : ((2 : Int64)) = (2 : Int32).toInt64 := by decide
    rw [e2, e3, i64_lt, i64_lt]
  have ek : roC M kd wk b = kRo P kd wk b := by
    unfold roC kRo
    rw [c4]
    by_cases h1 : P.rows = 12
    · rw [if_pos h1, if_pos (by omega)]
    · rw [if_neg h1, if_neg (show ¬ 12 ≤ P.rows by omega)]
      by_cases h2 : isInB kd.toInt64 0 2 = true
      · rw [if_pos h2]
        rw [ekd] at h2
        by_cases h3 : isInB wk.toInt64 0 ((M.wk - 1).toInt64) = true
        · rw [if_pos h3]
          rw [ew] at h3
          by_cases h4 : isInB b (-1000000) 1000000 = true
          · rw [if_pos h4]
            rw [in_of] at h4
            rw [if_neg]
            intro z
            rcases z with z | z | z | z | z | z
            · exact h2.1 z
            · exact h2.2 z
            · exact h3.1 z
            · exact z h3.2
            · exact h4.1 z
            · exact h4.2 z
          · rw [if_neg h4, if_pos]
            rw [in_of] at h4
            by_cases h5 : b < -1000000
            · exact Or.inr (Or.inr (Or.inr (Or.inr (Or.inl h5))))
            · exact Or.inr (Or.inr (Or.inr (Or.inr (Or.inr (Classical.byContradiction (fun z => h4 ⟨h5, z⟩))))))
        · rw [if_neg h3, if_pos]
          rw [ew] at h3
          by_cases h5 : wk < 0
          · exact Or.inr (Or.inr (Or.inl h5))
          · exact Or.inr (Or.inr (Or.inr (Or.inl (fun z => h3 ⟨h5, z⟩))))
      · rw [if_neg h2, if_pos]
        rw [ekd] at h2
        by_cases h5 : kd < 0
        · exact Or.inl h5
        · exact Or.inr (Or.inl (Classical.byContradiction (fun z => h2 ⟨h5, z⟩)))
  unfold rwM pRo
  rw [ek]
  by_cases h0 : kRo P kd wk b = 0
  · rw [if_pos h0, if_pos h0]
    refine ⟨h0.symm, ?_, fun _ => by rw [c4]⟩
    unfold kRo at h0
    have n1 : ¬ 12 ≤ P.rows := fun z => by rw [if_pos z] at h0; cases h0
    rw [if_neg n1] at h0
    have n2 : ¬ (kd < 0 ∨ 2 < kd ∨ wk < 0 ∨ ¬ wk < P.wk ∨ b < -1000000 ∨ 1000000 < b) := fun z => by rw [if_pos z] at h0; cases h0
    exact rel_add R0 kd wk b F _ (by omega) (kd_cases (fun z => n2 (Or.inl z)) (fun z => n2 (Or.inr (Or.inl z)))) rfl rfl rfl rfl rfl rfl c10 rfl rfl rfl rfl rfl rfl rfl rfl rfl
  · rw [if_neg h0, if_neg h0]
    exact ⟨rfl, R0, fun z => absurd z h0⟩
theorem li_none (R : Rel P F T M) {r : Nat} (hr : r < 12) : (M.li r = none ↔ ¬ r < P.rin) := by
  rw [R.2.1.2.1 r hr]
  by_cases h : r < P.rin
  · rw [if_pos h]
    exact ⟨fun z => (by cases z), fun z => absurd h z⟩
  · rw [if_neg h]
    exact ⟨fun _ => h, fun _ => rfl⟩
theorem o_factor (R : Rel P F T M) (x y v : Int32) : (faM M x y v).2.thr = kFa P T x y v ∧ Rel P (fFa P F T x y v) T (faM M x y v).2 ∧ (kFa P T x y v = 0 → (faM M x y v).1 = F (iFa P T x y)) := by
  have R0 := R
  obtain ⟨Rt0, Rr0, ⟨⟨c1, c2, c3⟩, ⟨c4, c5, c6⟩, ⟨c7, c8, c9, c10⟩, c11, ⟨c12, c13⟩, c14⟩, Rg0⟩ := R
  have a1 := Rt0.1.1
  have h1c : ∀ o, idx P.rows x = o → idx M.ro x = o := fun o h => by rw [c4]; exact h
  have h2c : ∀ o, idx T.w y = o → idx M.co y = o := fun o h => by rw [a1]; exact h
  unfold faM fFa
  cases h1 : idx P.rows x with
  | none =>
    have e1 : kFa P T x y v = 1 := by simp only [kFa, h1]
    rw [h1c _ h1, e1]
    exact ⟨rfl, R0, fun z => by cases z⟩
  | some r =>
    cases h2 : idx T.w y with
    | none =>
      have e1 : kFa P T x y v = 1 := by simp only [kFa, h1, h2]
      rw [h1c _ h1, h2c _ h2, e1]
      exact ⟨rfl, R0, fun z => by cases z⟩
    | some j =>
      have hr9 := (idx_some h1).1
      have e2 : kFa P T x y v = if r < P.rin then 2 else if v < -1000 ∨ 1000 < v then 3 else 0 := by simp only [kFa, h1, h2]
      have e3 : iFa P T x y = r * 12 + j := by simp only [iFa, h1, h2]
      rw [h1c _ h1, h2c _ h2, e2, e3]
      by_cases h3 : r < P.rin
      · rw [if_pos h3]
        have h4 : M.li r = some (T.w + lsum P.K r) := by rw [Rr0.2.1 r (by omega), if_pos h3]
        simp only [h4]
        exact ⟨rfl, R0, fun z => by cases z⟩
      · rw [if_neg h3]
        have h4 : M.li r = none := (li_none R0 (by omega)).mpr h3
        simp only [h4]
        have ev : isInB v.toInt64 (-1000) 1000 = true ↔ ¬ (v < -1000 ∨ 1000 < v) := by
          rw [in_of]
          have e4 : ((-1000 : Int64)) = (-1000 : Int32).toInt64 := by decide
          have e5 : ((1000 : Int64)) = (1000 : Int32).toInt64 := by decide
          rw [e4, e5, i64_lt, i64_lt]
          exact ⟨fun z w => by rcases w with w | w; exact z.1 w; exact z.2 w, fun z => ⟨fun w => z (Or.inl w), fun w => z (Or.inr w)⟩⟩
        by_cases h5 : v < -1000 ∨ 1000 < v
        · rw [if_pos h5, if_neg (fun z => ev.mp z h5)]
          exact ⟨rfl, R0, fun z => by cases z⟩
        · rw [if_neg h5, if_pos (ev.mpr h5), if_pos rfl]
          refine ⟨rfl, ⟨Rt0, Rr0, ⟨⟨c1, c2, c3⟩, ⟨c4, c5, c6⟩, ⟨c7, c8, c9, fun i => ?_⟩, c11, ⟨c12, c13⟩, c14⟩, Rg0⟩, fun _ => ?_⟩
          · show vp_updL M.fa (12 * r + j) v.toInt64 i = (upd F (r * 12 + j) v i).toInt64
            by_cases h6 : i = r * 12 + j
            · rw [h6, pk_us, show 12 * r + j = r * 12 + j by omega, pk_uLs]
            · rw [pk_un h6, pk_uLn (by omega)]; exact c10 i
          · show (M.fa (12 * r + j)).toInt32 = _
            rw [c10, show 12 * r + j = r * 12 + j by omega]
            exact Int32.toInt32_toInt64 _
theorem o_cut (R : Rel P F T M) (x y : Int32) : (cuM M x y).2.thr = kCu P T x y ∧ Rel (pCu P T x y) (fCu P F T x y) T (cuM M x y).2 ∧ (kCu P T x y = 0 → (cuM M x y).1 = nI P.rows) := by
  have R0 := R
  obtain ⟨Rt0, Rr0, ⟨⟨c1, c2, c3⟩, ⟨c4, c5, c6⟩, ⟨c7, c8, c9, c10⟩, c11, ⟨c12, c13⟩, c14⟩, Rg0⟩ := R
  have a1 := Rt0.1.1
  have h1c : ∀ z o, idx T.w z = o → idx M.co z = o := fun z o h => by rw [a1]; exact h
  unfold cuM pCu fCu
  cases h1 : idx T.w x with
  | none =>
    have e1 : kCu P T x y = 1 := by simp only [kCu, h1]
    rw [h1c _ _ h1, e1]
    exact ⟨rfl, R0, fun z => (by cases z)⟩
  | some i =>
    cases h2 : idx T.w y with
    | none =>
      have e1 : kCu P T x y = 1 := by simp only [kCu, h1, h2]
      rw [h1c _ _ h1, h1c _ _ h2, e1]
      exact ⟨rfl, R0, fun z => (by cases z)⟩
    | some j =>
      have e2 : kCu P T x y = if 12 ≤ P.rows then 2 else if i = j then 3 else 0 := by simp only [kCu, h1, h2]
      rw [h1c _ _ h1, h1c _ _ h2, e2]
      simp only
      by_cases h3 : M.ro = 12
      · rw [if_pos h3, if_pos (show 12 ≤ P.rows by omega)]
        exact ⟨rfl, R0, fun z => (by cases z)⟩
      · rw [if_neg h3, if_neg (show ¬ 12 ≤ P.rows by omega)]
        by_cases h5 : i = j
        · rw [if_pos h5, if_pos h5]
          exact ⟨rfl, R0, fun z => (by cases z)⟩
        · rw [if_neg h5, if_neg h5, if_pos rfl, if_pos rfl]
          refine ⟨rfl, ?_, fun _ => by rw [c4]⟩
          refine rel_add R0 1 0 1 _ _ (by omega) (Or.inr (Or.inl rfl)) rfl rfl rfl rfl rfl rfl (fun z => ?_) rfl rfl rfl rfl rfl rfl rfl rfl rfl
          show vp_updL (vp_updL M.fa (12 * M.ro + i) 1) (12 * M.ro + j) 1 z = (upd (upd F (P.rows * 12 + i) 1) (P.rows * 12 + j) 1 z).toInt64
          rw [c4]
          by_cases h6 : z = P.rows * 12 + j
          · rw [h6, pk_us, show 12 * P.rows + j = P.rows * 12 + j by omega, pk_uLs]; decide
          · rw [pk_un h6, pk_uLn (by omega)]
            by_cases h7 : z = P.rows * 12 + i
            · rw [h7, pk_us, show 12 * P.rows + i = P.rows * 12 + i by omega, pk_uLs]; decide
            · rw [pk_un h7, pk_uLn (by omega)]; exact c10 z
end
