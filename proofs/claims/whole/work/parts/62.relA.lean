/-! the relation between the class's table and the reference's -/
theorem gr_fits (v : Int64) : (!isGrB v) = fits9 v := by
  unfold isGrB fits9
  cases decide (v < -1000000000) <;> cases decide (1000000000 < v) <;> rfl
theorem f9_iff (v : Int64) : fits9 v = true ↔ -1000000000 ≤ v.toInt ∧ v.toInt ≤ 1000000000 := by
  have e1 : ((-1000000000 : Int64)).toInt = -1000000000 := by decide
  have e2 : ((1000000000 : Int64)).toInt = 1000000000 := by decide
  unfold fits9
  rw [Bool.and_eq_true, Bool.not_eq_true', Bool.not_eq_true', decide_eq_false_iff_not, decide_eq_false_iff_not, Int64.lt_iff_toInt_lt, Int64.lt_iff_toInt_lt, e1, e2]
  omega
theorem f9_neg {v : Int64} (h : fits9 v = true) : fits9 (-v) = true := by
  rw [f9_iff] at h ⊢
  rw [Int64.toInt_neg, Int.bmod_eq_of_le_mul_two (by omega) (by omega)]
  omega
theorem f9_0 : fits9 0 = true := by decide
/-- Euclid within 100 turns -/
theorem rm_abs {a b : Int64} : (a - a / b * b).toInt = a.toInt.tmod b.toInt := by
  have h := Int.tmod_add_tdiv_mul a.toInt b.toInt
  have h1 := a.le_toInt
  have h2 := a.toInt_lt
  have h3 := b.le_toInt
  have h4 := b.toInt_lt
  rw [Int64.toInt_sub, Int64.toInt_mul, Int64.toInt_div, Int.bmod_mul_bmod, Int.sub_bmod_bmod, show a.toInt - a.toInt.tdiv b.toInt * b.toInt = a.toInt.tmod b.toInt by omega]
  have h5 := Int.natAbs_tmod a.toInt b.toInt
  have h6 : a.toInt.natAbs % b.toInt.natAbs ≤ a.toInt.natAbs := Nat.mod_le _ _
  by_cases hb : b.toInt = 0
  · rw [hb, Int.tmod_zero]
    exact Int.bmod_eq_of_le_mul_two (by omega) (by omega)
  · have h7 : a.toInt.natAbs % b.toInt.natAbs < b.toInt.natAbs := Nat.mod_lt _ (by omega)
    exact Int.bmod_eq_of_le_mul_two (by omega) (by omega)
theorem i64_0 {b : Int64} : b = 0 ↔ b.toInt = 0 := by
  rw [← Int64.toInt_inj]; rfl
theorem gz_all : ∀ (m n : Nat) (a b : Int64), b.toInt.natAbs < 2 ^ m → 2 * m ≤ n → gcZ n a b = true := by
  intro m
  induction m with
  | zero =>
    intro n a b h1 h2
    have hb : b = 0 := by rw [i64_0]; omega
    cases n with
    | zero => rw [gcZ]; exact decide_eq_true hb
    | succ n => rw [gcZ, if_pos hb]
  | succ m ih =>
    intro n a b h1 h2
    obtain ⟨n2, rfl⟩ : ∃ n2, n = n2 + 1 + 1 := ⟨n - 2, by omega⟩
    rw [gcZ]
    split
    · rfl
    rw [gcZ]
    split
    · rfl
    rename_i h3 h4
    rw [i64_0] at h3 h4
    refine ih n2 _ _ ?_ (by omega)
    rw [rm_abs, Int.natAbs_tmod]
    rw [rm_abs] at h4
    have h5 : (a - a / b * b).toInt.natAbs = a.toInt.natAbs % b.toInt.natAbs := by rw [rm_abs, Int.natAbs_tmod]
    rw [h5]
    have h6 : a.toInt.natAbs % b.toInt.natAbs < b.toInt.natAbs := Nat.mod_lt _ (by omega)
    have h7 : 0 < a.toInt.natAbs % b.toInt.natAbs := by
      have := Int.natAbs_tmod a.toInt b.toInt
      omega
    generalize a.toInt.natAbs % b.toInt.natAbs = r at h6 h7
    generalize b.toInt.natAbs = B at h1 h6
    have h8 : B % r < r := Nat.mod_lt _ h7
    have h9 : B % r + r ≤ B := by
      have hd := Nat.div_add_mod B r
      have hq : 1 ≤ B / r := Nat.div_pos (by omega) h7
      have hm : r * 1 ≤ r * (B / r) := Nat.mul_le_mul_left r hq
      omega
    have h10 : 2 ^ (m + 1) = 2 * 2 ^ m := by rw [Nat.pow_succ, Nat.mul_comm]
    omega
theorem gl_ne : ∀ (n : Nat) (a b : Int64), gcZ n a b = true → (¬ a = 0 ∨ ¬ b = 0) → ¬ gcL n a b = 0 := by
  intro n
  induction n with
  | zero =>
    intro a b h1 h2
    rw [gcZ] at h1
    rw [gcL]
    have := of_decide_eq_true h1
    rcases h2 with h2 | h2
    · exact h2
    · exact absurd this h2
  | succ n ih =>
    intro a b h1 h2
    rw [gcZ] at h1
    rw [gcL]
    split
    · rename_i h3
      rcases h2 with h2 | h2
      · exact h2
      · exact absurd h3 h2
    · rename_i h3
      rw [if_neg h3] at h1
      exact ih _ _ h1 (Or.inl h3)
theorem hz_of {d : Int64} (h1 : fits9 d = true) (h2 : 0 < d) (u : Int64) : gcZ 100 (szR u) d = true ∧ ¬ gcL 100 (szR u) d = 0 := by
  rw [f9_iff] at h1
  have h3 : (0 : Int) < d.toInt := by
    rw [Int64.lt_iff_toInt_lt] at h2
    exact h2
  have h4 : gcZ 100 (szR u) d = true := gz_all 30 100 _ _ (by omega) (by omega)
  exact ⟨h4, gl_ne _ _ _ h4 (Or.inr (by rw [i64_0]; omega))⟩
theorem ab_sz (u : Int64) : abL u = szR u := by
  unfold abL szR
  by_cases h1 : 0 < u
  · rw [if_pos h1, if_neg (fun z => Int64.lt_irrefl (Int64.lt_trans h1 z))]
  · rw [if_neg h1]
    by_cases h2 : u < 0
    · rw [if_pos h2]
    · rw [if_neg h2]
      have h3 : u = 0 := Int64.le_antisymm (Int64.not_lt.mp h1) (Int64.not_lt.mp h2)
      rw [h3]; rfl
theorem lt_fr {d : Int64} (h1 : fits9 d = true) (h2 : 0 < d) (u : Int64) (pt : Int32) : ltM u d pt = frR u d pt := by
  unfold ltM frR
  rw [ab_sz, if_neg (hz_of h1 h2 u).2]
/-- the table's relation -/
def vr (T : TS) (i : Nat) : Nat := if i = 0 then 36 else (T.I i).toInt.toNat
def plc (q : Nat) : Nat := if q = 12 then 0 else q + 1
theorem vr_0 (T : TS) : vr T 0 = 36 := rfl
theorem vr_of {T : TS} {i v : Nat} (h0 : 1 ≤ i) (hv : v < 2 ^ 31) (h : T.I i = nI v) : vr T i = v := by
  unfold vr
  rw [if_neg (by omega), h, nI_toInt hv]
  omega
def RtA (T : TS) (M : MS) : Prop := M.co = T.w ∧ M.ln = T.h ∧ M.dn = T.d ∧ T.w ≤ 12 ∧ T.h ≤ 24
def RtI (T : TS) (M : MS) : Prop := ∀ i, 1 ≤ i → i ≤ T.h → vr T i < T.w + T.h ∧ T.I i = nI (vr T i) ∧ M.pl (vr T i) = none
def RtJ (T : TS) (M : MS) : Prop := ∀ v, v < T.w + T.h → M.pl v = none → ∃ i, 1 ≤ i ∧ i ≤ T.h ∧ vr T i = v
def RtU (T : TS) : Prop := ∀ i j, 1 ≤ i → i ≤ T.h → 1 ≤ j → j ≤ T.h → vr T i = vr T j → i = j
def RtO (T : TS) (M : MS) : Prop := ∀ k, k < T.w → T.O (k + 1) = nI (M.ou k) ∧ M.ou k < T.w + T.h ∧ M.pl (M.ou k) = some k
def RtP (T : TS) (M : MS) : Prop := (∀ v k, v < 37 → M.pl v = some k → k < T.w ∧ M.ou k = v) ∧ (∀ v k, M.pl v = some k → k < 12) ∧ (∀ k, M.ou k < 36)
def RtC (T : TS) (M : MS) : Prop := ∀ i, i ≤ T.h → ∀ q, q < T.w ∨ q = 12 → M.ta (13 * vr T i + q) = T.C (i * 13 + plc q)
def RtZ (T : TS) (M : MS) : Prop := ∀ v q, v < 37 → T.w ≤ q → q < 12 → M.ta (13 * v + q) = 0
def RtF (T : TS) : Prop := (∀ i, i ≤ T.h → ∀ k, k ≤ T.w → fits9 (T.C (i * 13 + k)) = true) ∧ fits9 T.d = true ∧ 0 < T.d
def Rt (T : TS) (M : MS) : Prop := RtA T M ∧ RtI T M ∧ RtJ T M ∧ RtU T ∧ RtO T M ∧ RtP T M ∧ RtC T M ∧ RtZ T M ∧ RtF T
section
variable {T : TS} {M : MS}
theorem fi_some (R : Rt T M) {v : Nat} (hv : v < T.w + T.h) (h : M.pl v = none) : ∃ i, fnd T.I (nI v) 1 T.h = some i ∧ 1 ≤ i ∧ i ≤ T.h ∧ vr T i = v := by
  obtain ⟨⟨-, -, -, hw, hh⟩, hI, hJ, -⟩ := R
  obtain ⟨i0, h1, h2, h3⟩ := hJ v hv h
  cases hf : fnd T.I (nI v) 1 T.h with
  | none =>
    have h4 := fnd_none hf i0 h1 (by omega)
    rw [(hI i0 h1 h2).2.1, h3] at h4
    exact absurd rfl h4
  | some i =>
    have h4 := fnd_lt hf
    exact ⟨i, rfl, by omega, by omega, vr_of (by omega) (by omega) (fnd_some hf)⟩
theorem fi_none (R : Rt T M) {v k : Nat} (hv : v < 37) (h : M.pl v = some k) : fnd T.I (nI v) 1 T.h = none := by
  obtain ⟨⟨-, -, -, hw, hh⟩, hI, hJ, -⟩ := R
  cases hf : fnd T.I (nI v) 1 T.h with
  | none => rfl
  | some i =>
    have h4 := fnd_lt hf
    have h5 := (hI i (by omega) (by omega)).2.2
    rw [vr_of (by omega) (by omega) (fnd_some hf), h] at h5
    cases h5
theorem fo_some (R : Rt T M) {v k : Nat} (hv : v < 37) (h : M.pl v = some k) : fnd T.O (nI v) 1 T.w = some (k + 1) ∧ k < T.w := by
  obtain ⟨⟨-, -, -, hw, hh⟩, hI, hJ, hU, hO, hP, -⟩ := R
  obtain ⟨h1, h2⟩ := hP.1 v k hv h
  refine ⟨?_, h1⟩
  cases hf : fnd T.O (nI v) 1 T.w with
  | none =>
    have h4 := fnd_none hf (k + 1) (by omega) (by omega)
    rw [(hO k h1).1, h2] at h4
    exact absurd rfl h4
  | some j =>
    have h4 := fnd_lt hf
    have h5 := fnd_some hf
    obtain ⟨k2, rfl⟩ : ∃ k2, j = k2 + 1 := ⟨j - 1, by omega⟩
    obtain ⟨h6, h7, h8⟩ := hO k2 (by omega)
    rw [h6, nI_eq (by omega) (by omega)] at h5
    rw [h5, h] at h8
    cases h8
    rfl
theorem fo_none (R : Rt T M) {v : Nat} (hv : v < T.w + T.h) (h : M.pl v = none) : fnd T.O (nI v) 1 T.w = none := by
  obtain ⟨⟨-, -, -, hw, hh⟩, hI, hJ, hU, hO, hP, -⟩ := R
  cases hf : fnd T.O (nI v) 1 T.w with
  | none => rfl
  | some j =>
    have h4 := fnd_lt hf
    have h5 := fnd_some hf
    obtain ⟨k2, rfl⟩ : ∃ k2, j = k2 + 1 := ⟨j - 1, by omega⟩
    obtain ⟨h6, h7, h8⟩ := hO k2 (by omega)
    rw [h6, nI_eq (by omega) (by omega)] at h5
    rw [h5, h] at h8
    cases h8
theorem st_am (R : Rt T M) {v : Nat} (hv : v < T.w + T.h) : T.start (nI v) = amR M v := by
  have R2 := R
  obtain ⟨⟨-, -, -, hw, hh⟩, hI, hJ, hU, hO, hP, hC, -⟩ := R2
  unfold TS.start amR
  cases hp : M.pl v with
  | none =>
    obtain ⟨i, h1, h2, h3, h4⟩ := fi_some R hv hp
    rw [h1]
    have h5 := hC i h3 12 (Or.inr rfl)
    rw [h4] at h5
    exact h5.symm
  | some k => rw [fi_none R (by omega) hp]
def nuR (M : MS) (g q : Nat) : Int64 := match M.pl q with
  | none => 0
  | some k => M.ta (13 * g + k)
theorem nu_eq (R : Rt T M) {i v : Nat} (hi : i ≤ T.h) (hv : v < T.w + T.h) : T.num i (nI v) = nuR M (vr T i) v := by
  have R2 := R
  obtain ⟨⟨-, -, -, hw, hh⟩, hI, hJ, hU, hO, hP, hC, -⟩ := R2
  unfold TS.num nuR
  cases hp : M.pl v with
  | none => rw [fo_none R hv hp]
  | some k =>
    obtain ⟨h1, h2⟩ := fo_some R (by omega) hp
    rw [h1]
    have h5 := hC i hi k (Or.inl h2)
    rw [plc, if_neg (by omega)] at h5
    exact h5.symm
theorem pr_nu (v : Nat) : prR M v = nuR M 36 v := by
  unfold prR nuR
  cases M.pl v with
  | none => rfl
  | some k => rfl
theorem we_nu (g v : Nat) (h : ¬ v = g) : weR M g v = -(nuR M g v) := by
  unfold weR nuR
  rw [if_neg h]
  cases M.pl v with
  | none => exact Int64.neg_zero.symm
  | some k => rfl
/-- the one that leaves -/
theorem lvR_some : ∀ {n v j : Nat}, lvR M v n = some j → M.pl j = none ∧ M.ta (13 * j + 12) < 0 ∧ ∀ u, v ≤ u → u < j → ¬ (M.pl u = none ∧ M.ta (13 * u + 12) < 0) := by
  intro n
  induction n with
  | zero => intro v j h; simp [lvR] at h
  | succ n ih =>
    intro v j h
    rw [lvR] at h
    split at h
    · rename_i h1
      cases h
      exact ⟨h1.1, h1.2, fun u h2 h3 => by omega⟩
    · rename_i h1
      obtain ⟨h2, h3, h4⟩ := ih h
      refine ⟨h2, h3, fun u h5 h6 => ?_⟩
      by_cases h7 : u = v
      · rw [h7]; exact h1
      · exact h4 u (by omega) h6
theorem lvR_none : ∀ {n v : Nat}, lvR M v n = none → ∀ u, v ≤ u → u < v + n → ¬ (M.pl u = none ∧ M.ta (13 * u + 12) < 0) := by
  intro n
  induction n with
  | zero => intro v h u h1 h2; omega
  | succ n ih =>
    intro v h u h1 h2
    rw [lvR] at h
    split at h
    · cases h
    · rename_i h3
      by_cases h7 : u = v
      · rw [h7]; exact h3
      · exact ih h u (by omega) (by omega)
theorem lvM_all : ∀ (n i : Nat) (b : Option Nat), (∀ j, b = some j → T.C (j * 13 + 0) < 0) →
    (∀ j, lvM T i n b = some j → T.C (j * 13 + 0) < 0 ∧ (∀ u, i ≤ u → u < i + n → T.C (u * 13 + 0) < 0 → T.I j ≤ T.I u) ∧ (∀ u, b = some u → T.I j ≤ T.I u)) ∧ (lvM T i n b = none → b = none ∧ ∀ u, i ≤ u → u < i + n → ¬ T.C (u * 13 + 0) < 0) := by
  intro n
  induction n with
  | zero =>
    intro i b hb
    refine ⟨fun j h => ⟨hb j h, fun u h1 h2 => by omega, fun u h1 => ?_⟩, fun h => ⟨h, fun u h1 h2 => by omega⟩⟩
    rw [lvM, h1] at h
    cases h
    exact Int32.le_refl _
  | succ n ih =>
    intro i b hb
    rw [lvM]
    by_cases hc : T.C (i * 13 + 0) < 0
    · cases b with
      | none =>
        have e1 : lvB T i none = true := by simp only [lvB]; rw [decide_eq_true hc]; rfl
        rw [if_pos e1]
        obtain ⟨h1, h2⟩ := ih (i + 1) (some i) (fun j h => by cases h; exact hc)
        refine ⟨fun j h => ?_, fun h => ?_⟩
        · obtain ⟨h3, h4, h5⟩ := h1 j h
          refine ⟨h3, fun u h6 h7 h8 => ?_, fun u h6 => by cases h6⟩
          by_cases h9 : u = i
          · rw [h9]; exact h5 i rfl
          · exact h4 u (by omega) (by omega) h8
        · obtain ⟨h3, -⟩ := h2 h
          cases h3
      | some b =>
        by_cases hl : T.I i < T.I b
        · have e1 : lvB T i (some b) = true := by simp only [lvB]; rw [decide_eq_true hc, decide_eq_true hl]; rfl
          rw [if_pos e1]
          obtain ⟨h1, h2⟩ := ih (i + 1) (some i) (fun j h => by cases h; exact hc)
          refine ⟨fun j h => ?_, fun h => ?_⟩
          · obtain ⟨h3, h4, h5⟩ := h1 j h
            refine ⟨h3, fun u h6 h7 h8 => ?_, fun u h6 => ?_⟩
            · by_cases h9 : u = i
              · rw [h9]; exact h5 i rfl
              · exact h4 u (by omega) (by omega) h8
            · cases h6
              exact Int32.le_trans (h5 i rfl) (Int32.le_of_lt hl)
          · obtain ⟨h3, -⟩ := h2 h
            cases h3
        · have e1 : ¬ lvB T i (some b) = true := by simp only [lvB]; rw [decide_eq_false hl, Bool.and_false]; exact Bool.false_ne_true
          rw [if_neg e1]
          obtain ⟨h1, h2⟩ := ih (i + 1) (some b) hb
          refine ⟨fun j h => ?_, fun h => ?_⟩
          · obtain ⟨h3, h4, h5⟩ := h1 j h
            refine ⟨h3, fun u h6 h7 h8 => ?_, h5⟩
            by_cases h9 : u = i
            · rw [h9]; exact Int32.le_trans (h5 b rfl) (Int32.not_lt.mp hl)
            · exact h4 u (by omega) (by omega) h8
          · obtain ⟨h3, -⟩ := h2 h
            cases h3
    · have e1 : ¬ lvB T i b = true := by simp only [lvB]; rw [decide_eq_false hc, Bool.false_and]; exact Bool.false_ne_true
      rw [if_neg e1]
      obtain ⟨h1, h2⟩ := ih (i + 1) b hb
      refine ⟨fun j h => ?_, fun h => ?_⟩
      · obtain ⟨h3, h4, h5⟩ := h1 j h
        refine ⟨h3, fun u h6 h7 h8 => ?_, h5⟩
        by_cases h9 : u = i
        · rw [h9] at h8; exact absurd h8 hc
        · exact h4 u (by omega) (by omega) h8
      · obtain ⟨h3, h4⟩ := h2 h
        refine ⟨h3, fun u h6 h7 => ?_⟩
        by_cases h9 : u = i
        · rw [h9]; exact hc
        · exact h4 u (by omega) (by omega)
theorem lv_none (R : Rt T M) (h : lvM T 1 T.h none = none) : lvR M 0 (M.co + M.ln) = none := by
  obtain ⟨⟨a1, a2, a3, hw, hh⟩, hI, hJ, hU, hO, hP, hC, -⟩ := R
  obtain ⟨-, h1⟩ := (lvM_all T.h 1 none (fun j q => by cases q)).2 h
  cases hr : lvR M 0 (M.co + M.ln) with
  | none => rfl
  | some j =>
    obtain ⟨h2, h3, -⟩ := lvR_some hr
    have h4 := lvR_lt hr
    obtain ⟨i, h5, h6, h7⟩ := hJ j (by omega) h2
    have h8 := hC i h6 12 (Or.inr rfl)
    rw [h7] at h8
    rw [h8] at h3
    exact absurd h3 (h1 i h5 (by omega))
theorem lv_some (R : Rt T M) {i : Nat} (h : lvM T 1 T.h none = some i) : lvR M 0 (M.co + M.ln) = some (vr T i) ∧ 1 ≤ i ∧ i ≤ T.h ∧ T.C (i * 13 + 0) < 0 := by
  obtain ⟨⟨a1, a2, a3, hw, hh⟩, hI, hJ, hU, hO, hP, hC, -⟩ := R
  obtain ⟨h1, h2, -⟩ := (lvM_all T.h 1 none (fun j q => by cases q)).1 i h
  obtain ⟨h3, h4⟩ := lvM_lt h
  refine ⟨?_, h3, h4, h1⟩
  have c1 := hC i h4 12 (Or.inr rfl)
  obtain ⟨b1, b2, b3⟩ := hI i h3 h4
  cases hr : lvR M 0 (M.co + M.ln) with
  | none =>
    refine absurd ⟨b3, ?_⟩ (lvR_none hr (vr T i) (by omega) (by omega))
    rw [c1]; exact h1
  | some j =>
    obtain ⟨h5, h6, h7⟩ := lvR_some hr
    have h8 := lvR_lt hr
    obtain ⟨i2, g1, g2, g3⟩ := hJ j (by omega) h5
    have c2 := hC i2 g2 12 (Or.inr rfl)
    rw [g3] at c2
    rw [c2] at h6
    have h9 := h2 i2 g1 (by omega) h6
    obtain ⟨f1, f2, f3⟩ := hI i2 g1 g2
    rw [b2, f2, nI_leI (by omega) (by omega), g3] at h9
    congr 1
    by_cases h10 : vr T i < j
    · refine absurd ⟨b3, ?_⟩ (h7 (vr T i) (by omega) h10)
      rw [c1]; exact h1
    · omega
/-- the one that enters -/
theorem en_all (R : Rt T M) {le : Nat} (hle : le ≤ T.h) : ∀ (n k : Nat) (b : Option Nat), k + n ≤ T.w → (∀ o, b = some o → o < T.w) → enM T le (k + 1) n (b.map (· + 1)) = (enR M (vr T le) k n b).map (· + 1) := by
  obtain ⟨⟨a1, a2, a3, hw, hh⟩, hI, hJ, hU, hO, hP, hC, -⟩ := R
  intro n
  induction n with
  | zero => intro k b _ _; rfl
  | succ n ih =>
    intro k b hk hb
    have e0 : ∀ i, i ≤ T.h → ∀ q, q < T.w → M.ta (13 * vr T i + q) = T.C (i * 13 + (q + 1)) := by
      intro i hi q hq
      have h := hC i hi q (Or.inl hq)
      rw [plc, if_neg (by omega)] at h
      exact h
    have ec : ∀ q, q < T.w → M.ta (468 + q) = T.C (0 * 13 + (q + 1)) := fun q hq => e0 0 (by omega) q hq
    have es : (if enB T le (k + 1) (b.map (· + 1)) then some (k + 1) else b.map (· + 1)) = (enS M (vr T le) k b).map (· + 1) := by
      unfold enS
      by_cases hp : 0 < M.ta (13 * vr T le + k)
      · rw [if_pos hp]
        rw [e0 le hle k (by omega)] at hp
        cases b with
        | none => simp [enB, hp]
        | some o =>
          have ho := hb o rfl
          have h1 := (hO k (by omega)).1
          have h2 := (hO o ho).1
          have h3 := (hO k (by omega)).2.1
          have h4 := (hO o ho).2.1
          have e1 : ebM T le (k + 1) (o + 1) = ebR M (vr T le) k o := by
            unfold ebM ebR
            rw [e0 le hle k (by omega), e0 le hle o ho, ec k (by omega), ec o ho, h1, h2]
            rw [show decide (nI (M.ou k) < nI (M.ou o)) = decide (M.ou k < M.ou o) from decide_eq_decide.mpr (nI_ltI (by omega) (by omega))]
          simp only [Option.map_some, enB, decide_eq_true hp, Bool.true_and, e1]
          cases ebR M (vr T le) k o <;> rfl
      · rw [if_neg hp]
        rw [e0 le hle k (by omega)] at hp
        simp [enB, hp]
    rw [enM, enR, es]
    refine ih (k + 1) _ (by omega) (fun o ho => ?_)
    rcases enS_lt ho with h1 | h1
    · omega
    · exact hb o h1
theorem en_eq2 (R : Rt T M) {le : Nat} (hle : le ≤ T.h) : enM T le 1 T.w none = (enR M (vr T le) 0 M.co none).map (· + 1) := by
  have h := en_all R hle T.w 0 none (by omega) (fun o h => by cases h)
  rw [R.1.1]
  exact h
theorem enR_pos {le : Nat} : ∀ (n k : Nat) (b : Option Nat) (j : Nat), (∀ o, b = some o → 0 < M.ta (13 * le + o)) → enR M le k n b = some j → 0 < M.ta (13 * le + j) := by
  intro n
  induction n with
  | zero => intro k b j hb h; exact hb j h
  | succ n ih =>
    intro k b j hb h
    rw [enR] at h
    refine ih _ _ _ (fun o ho => ?_) h
    unfold enS at ho
    split at ho
    · rename_i h1
      split at ho
      · cases ho; exact h1
      · split at ho
        · cases ho; exact h1
        · cases ho; exact hb _ rfl
    · exact hb o ho
end
