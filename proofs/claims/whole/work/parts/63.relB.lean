/-! a step -/
theorem updR_13 (C : Nat → Int64) (a b c d : Nat) (x : Int64) (hb : b < 13) (hd : d < 13) : vp_updL C (13 * a + b) x (13 * c + d) = if c = a ∧ d = b then x else C (13 * c + d) := by
  unfold vp_updL
  by_cases h : c = a ∧ d = b
  · rw [if_pos h, if_pos (by omega)]
  · rw [if_neg h, if_neg (by omega)]
theorem spI_at (M : MS) (le q v : Nat) : ∀ (n k : Nat) (t : Nat → Int64) (b : Bool) (x y : Nat), k + n ≤ 13 → y < 13 → (spI M le q v k n t b).1 (13 * x + y) = if x = v ∧ k ≤ y ∧ y < k + n then spX M le q v y else t (13 * x + y) := by
  intro n
  induction n with
  | zero => intro k t b x y h1 h2; rw [if_neg (by omega)]; rfl
  | succ n ih =>
    intro k t b x y h1 h2
    rw [spI, ih _ _ _ _ _ (by omega) h2, updR_13 _ _ _ _ _ _ (by omega) h2]
    by_cases h3 : x = v ∧ y = k
    · obtain ⟨rfl, rfl⟩ := h3
      rw [if_neg (by omega), if_pos ⟨rfl, rfl⟩, if_pos (by omega)]
    · rw [if_neg h3]
      by_cases h4 : x = v ∧ k ≤ y ∧ y < k + (n + 1)
      · rw [if_pos (by omega), if_pos h4]
      · rw [if_neg (by omega), if_neg h4]
theorem spI_b (M : MS) (le q v : Nat) : ∀ (n k : Nat) (t : Nat → Int64) (b : Bool), (spI M le q v k n t b).2 = true ↔ b = true ∧ ∀ y, k ≤ y → y < k + n → fits9 (spX M le q v y) = true := by
  intro n
  induction n with
  | zero =>
    intro k t b
    exact ⟨fun h => ⟨h, fun y h1 h2 => by omega⟩, fun h => h.1⟩
  | succ n ih =>
    intro k t b
    rw [spI, ih, Bool.and_eq_true, gr_fits]
    constructor
    · intro ⟨⟨h1, h2⟩, h3⟩
      refine ⟨h1, fun y h4 h5 => ?_⟩
      by_cases h6 : y = k
      · rw [h6]; exact h2
      · exact h3 y (by omega) (by omega)
    · intro ⟨h1, h2⟩
      exact ⟨⟨h1, h2 k (by omega) (by omega)⟩, fun y h4 h5 => h2 y (by omega) (by omega)⟩
theorem spO_at (M : MS) (le q : Nat) : ∀ (n v : Nat) (t : Nat → Int64) (b : Bool) (x y : Nat), y < 13 → (spO M le q v n t b).1 (13 * x + y) = if (v ≤ x ∧ x < v + n) ∧ inB M x = true ∧ x ≠ le then spX M le q x y else t (13 * x + y) := by
  intro n
  induction n with
  | zero => intro v t b x y h2; rw [if_neg (by omega)]; rfl
  | succ n ih =>
    intro v t b x y h2
    rw [spO]
    by_cases hv : inB M v = true ∧ v ≠ le
    · rw [if_pos hv, ih _ _ _ _ _ h2, spI_at _ _ _ _ _ _ _ _ _ _ (by omega) h2]
      by_cases h3 : x = v
      · subst h3
        rw [if_neg (by omega), if_pos (by omega), if_pos ⟨by omega, hv⟩]
      · rw [if_neg (show ¬ (x = v ∧ 0 ≤ y ∧ y < 0 + 13) by omega)]
        by_cases h4 : (v + 1 ≤ x ∧ x < v + 1 + n) ∧ inB M x = true ∧ x ≠ le
        · rw [if_pos h4, if_pos ⟨by omega, h4.2⟩]
        · rw [if_neg h4, if_neg (fun z => h4 ⟨by omega, z.2⟩)]
    · rw [if_neg hv, ih _ _ _ _ _ h2]
      by_cases h4 : (v + 1 ≤ x ∧ x < v + 1 + n) ∧ inB M x = true ∧ x ≠ le
      · rw [if_pos h4, if_pos ⟨by omega, h4.2⟩]
      · rw [if_neg h4, if_neg (fun z => ?_)]
        by_cases h3 : x = v
        · rw [h3] at z; exact hv z.2
        · exact h4 ⟨by omega, z.2⟩
theorem spO_b (M : MS) (le q : Nat) : ∀ (n v : Nat) (t : Nat → Int64) (b : Bool), (spO M le q v n t b).2 = true ↔ b = true ∧ ∀ x, v ≤ x → x < v + n → inB M x = true → x ≠ le → ∀ y, y < 13 → fits9 (spX M le q x y) = true := by
  intro n
  induction n with
  | zero =>
    intro v t b
    exact ⟨fun h => ⟨h, fun y h1 h2 => by omega⟩, fun h => h.1⟩
  | succ n ih =>
    intro v t b
    rw [spO]
    by_cases hv : inB M v = true ∧ v ≠ le
    · rw [if_pos hv, ih, spI_b]
      constructor
      · intro ⟨⟨h1, h2⟩, h3⟩
        refine ⟨h1, fun x h4 h5 h6 h7 y h8 => ?_⟩
        by_cases h9 : x = v
        · rw [h9]; exact h2 y (by omega) (by omega)
        · exact h3 x (by omega) (by omega) h6 h7 y h8
      · intro ⟨h1, h2⟩
        exact ⟨⟨h1, fun y h4 h5 => h2 v (by omega) (by omega) hv.1 hv.2 y (by omega)⟩, fun x h4 h5 => h2 x (by omega) (by omega)⟩
    · rw [if_neg hv, ih]
      constructor
      · intro ⟨h1, h2⟩
        refine ⟨h1, fun x h4 h5 h6 h7 y h8 => ?_⟩
        by_cases h9 : x = v
        · rw [h9] at h6 h7; exact absurd ⟨h6, h7⟩ hv
        · exact h2 x (by omega) (by omega) h6 h7 y h8
      · intro ⟨h1, h2⟩
        exact ⟨h1, fun x h4 h5 => h2 x (by omega) (by omega)⟩
theorem cpI_at (nx : Nat → Int64) (v : Nat) : ∀ (n k : Nat) (t : Nat → Int64) (x y : Nat), k + n ≤ 13 → y < 13 → cpI nx v k n t (13 * x + y) = if x = v ∧ k ≤ y ∧ y < k + n then nx (13 * v + y) else t (13 * x + y) := by
  intro n
  induction n with
  | zero => intro k t x y h1 h2; rw [if_neg (by omega)]; rfl
  | succ n ih =>
    intro k t x y h1 h2
    rw [cpI, ih _ _ _ _ (by omega) h2, updR_13 _ _ _ _ _ _ (by omega) h2]
    by_cases h3 : x = v ∧ y = k
    · obtain ⟨rfl, rfl⟩ := h3
      rw [if_neg (by omega), if_pos ⟨rfl, rfl⟩, if_pos (by omega)]
    · rw [if_neg h3]
      by_cases h4 : x = v ∧ k ≤ y ∧ y < k + (n + 1)
      · rw [if_pos (by omega), if_pos h4]
      · rw [if_neg (by omega), if_neg h4]
theorem cpO_at (M : MS) (nx : Nat → Int64) (le : Nat) : ∀ (n v : Nat) (t : Nat → Int64) (x y : Nat), y < 13 → cpO M nx le v n t (13 * x + y) = if (v ≤ x ∧ x < v + n) ∧ inB M x = true ∧ x ≠ le then nx (13 * x + y) else t (13 * x + y) := by
  intro n
  induction n with
  | zero => intro v t x y h2; rw [if_neg (by omega)]; rfl
  | succ n ih =>
    intro v t x y h2
    rw [cpO, ih _ _ _ _ h2]
    by_cases hv : inB M v = true ∧ v ≠ le
    · rw [if_pos hv, cpI_at _ _ _ _ _ _ _ (by omega) h2]
      by_cases h3 : x = v
      · subst h3
        rw [if_neg (by omega), if_pos (by omega), if_pos ⟨by omega, hv⟩]
      · rw [if_neg (show ¬ (x = v ∧ 0 ≤ y ∧ y < 0 + 13) by omega)]
        by_cases h4 : (v + 1 ≤ x ∧ x < v + 1 + n) ∧ inB M x = true ∧ x ≠ le
        · rw [if_pos h4, if_pos ⟨by omega, h4.2⟩]
        · rw [if_neg h4, if_neg (fun z => h4 ⟨by omega, z.2⟩)]
    · rw [if_neg hv]
      by_cases h4 : (v + 1 ≤ x ∧ x < v + 1 + n) ∧ inB M x = true ∧ x ≠ le
      · rw [if_pos h4, if_pos ⟨by omega, h4.2⟩]
      · rw [if_neg h4, if_neg (fun z => ?_)]
        by_cases h3 : x = v
        · rw [h3] at z; exact hv z.2
        · exact h4 ⟨by omega, z.2⟩
theorem teR_at (dn : Int64) (le q en : Nat) (hne : ¬ le = en) : ∀ (n k : Nat) (t : Nat → Int64) (x y : Nat), k + n ≤ 13 → y < 13 → teR dn le q en k n t (13 * x + y) = if x = en ∧ k ≤ y ∧ y < k + n then (if y = q then dn else -(t (13 * le + y))) else t (13 * x + y) := by
  intro n
  induction n with
  | zero => intro k t x y h1 h2; rw [if_neg (by omega)]; rfl
  | succ n ih =>
    intro k t x y h1 h2
    rw [teR, ih _ _ _ _ (by omega) h2, updR_13 _ _ _ _ _ _ (by omega) h2, updR_13 _ _ _ _ _ _ (by omega) h2, if_neg (show ¬ (le = en ∧ y = k) by omega)]
    by_cases h3 : x = en ∧ y = k
    · obtain ⟨rfl, rfl⟩ := h3
      rw [if_neg (by omega), if_pos ⟨rfl, rfl⟩, if_pos (show x = x ∧ y ≤ y ∧ y < y + (n + 1) by omega)]
    · rw [if_neg h3]
      by_cases h4 : x = en ∧ k ≤ y ∧ y < k + (n + 1)
      · rw [if_pos (by omega), if_pos h4]
      · rw [if_neg (by omega), if_neg h4]
theorem otM_b (T : TS) (i le en : Nat) : ∀ (n k : Nat), otM T i le en k n = true ↔ ∀ y, k ≤ y → y < k + n → y ≠ en → fits9 (afM T.d (T.C (i * 13 + y)) (T.C (le * 13 + en)) (T.C (i * 13 + en)) (T.C (le * 13 + y))) = true := by
  intro n
  induction n with
  | zero => intro k; exact ⟨fun _ y h1 h2 => by omega, fun _ => rfl⟩
  | succ n ih =>
    intro k
    rw [otM, Bool.and_eq_true, ih]
    constructor
    · intro ⟨h1, h2⟩ y h3 h4 h5
      by_cases h6 : y = k
      · subst h6
        rw [if_neg h5] at h1
        exact h1
      · exact h2 y (by omega) (by omega) h5
    · intro h
      refine ⟨?_, fun y h3 h4 h5 => h y (by omega) (by omega) h5⟩
      split
      · rfl
      · rename_i h3
        exact h k (by omega) (by omega) h3
theorem sfM_b (T : TS) (le en : Nat) : ∀ (n k : Nat), sfM T le en k n = true ↔ ∀ i, k ≤ i → i < k + n → i ≠ le → ∀ y, y ≤ T.w → y ≠ en → fits9 (afM T.d (T.C (i * 13 + y)) (T.C (le * 13 + en)) (T.C (i * 13 + en)) (T.C (le * 13 + y))) = true := by
  intro n
  induction n with
  | zero => intro k; exact ⟨fun _ y h1 h2 => by omega, fun _ => rfl⟩
  | succ n ih =>
    intro k
    rw [sfM, Bool.and_eq_true, ih]
    constructor
    · intro ⟨h1, h2⟩ i h3 h4 h5 y h7 h8
      by_cases h6 : i = k
      · subst h6
        rw [if_neg h5, otM_b] at h1
        exact h1 y (by omega) (by omega) h8
      · exact h2 i (by omega) (by omega) h5 y h7 h8
    · intro h
      refine ⟨?_, fun i h3 h4 h5 => h i (by omega) (by omega) h5⟩
      split
      · rfl
      · rename_i h3
        rw [otM_b]
        exact fun y h4 h5 h6 => h k (by omega) (by omega) h3 y (by omega) h6
section
variable {T : TS} {M : MS}
theorem vr_lt (R : Rt T M) {i : Nat} (hi : i ≤ T.h) : vr T i < 37 := by
  obtain ⟨⟨-, -, -, hw, hh⟩, hI, -⟩ := R
  by_cases h : i = 0
  · rw [h, vr_0]; omega
  · have := (hI i (by omega) hi).1
    omega
theorem vr_inj (R : Rt T M) {i j : Nat} (hi : i ≤ T.h) (hj : j ≤ T.h) (h : vr T i = vr T j) : i = j := by
  obtain ⟨⟨-, -, -, hw, hh⟩, hI, hJ, hU, -⟩ := R
  by_cases h1 : i = 0
  · by_cases h2 : j = 0
    · omega
    · have := (hI j (by omega) hj).1
      rw [← h, h1, vr_0] at this
      omega
  · by_cases h2 : j = 0
    · have := (hI i (by omega) hi).1
      rw [h, h2, vr_0] at this
      omega
    · exact hU i j (by omega) hi (by omega) hj h
theorem in_iff (R : Rt T M) {v : Nat} : inB M v = true ↔ ∃ i, i ≤ T.h ∧ vr T i = v := by
  obtain ⟨⟨a1, a2, -, hw, hh⟩, hI, hJ, hU, -⟩ := R
  unfold inB
  rw [Bool.or_eq_true, Bool.and_eq_true, decide_eq_true_iff, decide_eq_true_iff, Option.isNone_iff_eq_none]
  constructor
  · intro h
    rcases h with h | ⟨h1, h2⟩
    · exact ⟨0, by omega, by rw [h]; rfl⟩
    · obtain ⟨i, h3, h4, h5⟩ := hJ v (by omega) h2
      exact ⟨i, h4, h5⟩
  · intro ⟨i, h1, h2⟩
    by_cases h3 : i = 0
    · left; rw [← h2, h3]; rfl
    · right
      obtain ⟨h4, h5, h6⟩ := hI i (by omega) h1
      rw [h2] at h4 h6
      exact ⟨by omega, h6⟩
theorem C_at (R : Rt T M) {i q : Nat} (hi : i ≤ T.h) (hq : q < T.w) : M.ta (13 * vr T i + q) = T.C (i * 13 + (q + 1)) := by
  obtain ⟨⟨a1, a2, -, hw, hh⟩, hI, hJ, hU, hO, hP, hC, -⟩ := R
  have h := hC i hi q (Or.inl hq)
  rw [plc, if_neg (by omega)] at h
  exact h
theorem sp_af (R : Rt T M) {li i q y : Nat} (hl : li ≤ T.h) (hi : i ≤ T.h) (hq : q < T.w) (hy : y < T.w ∨ y = 12) (hyq : y ≠ q) : spX M (vr T li) q (vr T i) y = afM T.d (T.C (i * 13 + plc y)) (T.C (li * 13 + (q + 1))) (T.C (i * 13 + (q + 1))) (T.C (li * 13 + plc y)) := by
  have R2 := R
  obtain ⟨⟨a1, a2, a3, hw, hh⟩, hI, hJ, hU, hO, hP, hC, hZ, hF⟩ := R2
  have hd : ¬ T.d = 0 := fun h => by
    have := hF.2.2
    rw [h] at this
    exact Int64.lt_irrefl this
  unfold spX afM
  rw [if_neg hyq, if_neg hd, hC i hi y hy, hC li hl y hy, C_at R hl hq, C_at R hi hq, a3]
theorem sp_0 (R : Rt T M) {li v q y : Nat} (hl : li ≤ T.h) (hv : v < 37) (hq : q < T.w) (hy : T.w ≤ y) (hy2 : y < 12) : spX M (vr T li) q v y = 0 := by
  have R2 := R
  obtain ⟨⟨a1, a2, a3, hw, hh⟩, hI, hJ, hU, hO, hP, hC, hZ, hF⟩ := R2
  unfold spX
  rw [if_neg (by omega), hZ v y hv hy hy2, hZ _ y (vr_lt R hl) hy hy2, Int64.zero_mul, Int64.mul_zero, Int64.sub_self, Int64.zero_div]
theorem sf_eq (R : Rt T M) {li q : Nat} (hl : li ≤ T.h) (hq : q < T.w) : sfM T li (q + 1) 0 (T.h + 1) = (spN M (vr T li) q).2 := by
  have R2 := R
  obtain ⟨⟨a1, a2, a3, hw, hh⟩, hI, hJ, hU, hO, hP, hC, hZ, hF⟩ := R2
  rw [Bool.eq_iff_iff, sfM_b, spN, spO_b, gr_fits]
  constructor
  · intro h
    refine ⟨?_, fun x h1 h2 h3 h4 y h5 => ?_⟩
    · rw [C_at R hl hq]
      exact hF.1 li hl _ (by omega)
    · obtain ⟨i, h6, rfl⟩ := (in_iff R).mp h3
      by_cases h7 : y = q
      · rw [h7, spX, if_pos rfl, C_at R h6 hq]
        exact hF.1 i h6 _ (by omega)
      · by_cases h8 : y < T.w ∨ y = 12
        · rw [sp_af R hl h6 hq h8 h7]
          refine h i (by omega) (by omega) (fun z => h4 (by rw [z])) (plc y) ?_ ?_
          · unfold plc; split <;> omega
          · unfold plc; split <;> omega
        · rw [sp_0 R hl (by omega) hq (by omega) (by omega)]
          exact f9_0
  · intro ⟨h0, h⟩ i h1 h2 h3 y h4 h5
    by_cases h6 : y = 0
    · have h7 := h (vr T i) (by omega) (by have := vr_lt R (i := i) (by omega); omega) ((in_iff R).mpr ⟨i, by omega, rfl⟩) (fun z => h3 (vr_inj R (by omega) hl z)) 12 (by omega)
      rw [sp_af R hl (by omega) hq (Or.inr rfl) (by omega)] at h7
      rw [h6]
      exact h7
    · have h7 := h (vr T i) (by omega) (by have := vr_lt R (i := i) (by omega); omega) ((in_iff R).mpr ⟨i, by omega, rfl⟩) (fun z => h3 (vr_inj R (by omega) hl z)) (y - 1) (by omega)
      rw [sp_af R hl (by omega) hq (Or.inl (by omega)) (by omega), plc, if_neg (by omega), show y - 1 + 1 = y by omega] at h7
      exact h7
def spT (M : MS) (le q : Nat) : Nat → Int64 := teR M.dn le q (M.ou q) 0 13 (cpO M (spN M le q).1 le 0 37 M.ta)
theorem spT_at (M : MS) (le q : Nat) (hne : ¬ le = M.ou q) (x y : Nat) (hx : x < 37) (hy : y < 13) : spT M le q (13 * x + y) = if x = M.ou q then (if y = q then M.dn else -(M.ta (13 * le + y))) else if inB M x = true ∧ x ≠ le then spX M le q x y else M.ta (13 * x + y) := by
  unfold spT
  rw [teR_at _ _ _ _ hne _ _ _ _ _ (by omega) hy]
  by_cases h1 : x = M.ou q
  · rw [if_pos (by omega), if_pos h1, cpO_at _ _ _ _ _ _ _ _ hy, if_neg (show ¬ ((0 ≤ le ∧ le < 0 + 37) ∧ inB M le = true ∧ le ≠ le) from fun z => z.2.2 rfl)]
  · rw [if_neg (by omega), if_neg h1, cpO_at _ _ _ _ _ _ _ _ hy]
    by_cases h2 : inB M x = true ∧ x ≠ le
    · rw [if_pos ⟨by omega, h2⟩, if_pos h2, spN, spO_at _ _ _ _ _ _ _ _ _ hy, if_pos ⟨by omega, h2⟩]
    · rw [if_neg (fun z => h2 z.2), if_neg h2]
theorem chM_at (T : TS) (li en : Nat) (hw : T.w ≤ 12) (hen : en ≤ T.w) (hl : li ≤ T.h) (x y : Nat) (hx : x ≤ T.h) (hy : y ≤ T.w) : (chM T li en).C (x * 13 + y) = if x = li then (if y = en then T.d else -(T.C (li * 13 + y))) else if y = en then T.C (x * 13 + y) else afM T.d (T.C (x * 13 + y)) (T.C (li * 13 + en)) (T.C (x * 13 + en)) (T.C (li * 13 + y)) := by
  show ceL T.d li en 0 (T.w + 1) (chL T.d T.w li en 0 (T.h + 1) T.C) (x * 13 + y) = _
  rw [ceL_at _ _ _ _ _ _ _ _ (by omega) (by omega), chL_at _ _ _ _ hw (by omega) _ _ _ _ _ (by omega), chL_at _ _ _ _ hw (by omega) _ _ _ _ _ (by omega), if_neg (show ¬ (0 ≤ li ∧ li < 0 + (T.h + 1) ∧ li ≠ li ∧ y ≤ T.w ∧ y ≠ en) from fun z => z.2.2.1 rfl)]
  by_cases h1 : x = li
  · rw [if_pos (by omega), if_pos h1]
  · rw [if_neg (by omega), if_neg h1]
    by_cases h2 : y = en
    · rw [if_neg (by omega), if_pos h2]
    · rw [if_pos (by omega), if_neg h2]
theorem ch_vr (R : Rt T M) {li q i : Nat} (hl0 : 1 ≤ li) (hq : q < T.w) : vr (chM T li (q + 1)) i = if i = li then M.ou q else vr T i := by
  obtain ⟨⟨a1, a2, a3, hw, hh⟩, hI, hJ, hU, hO, hP, hC, hZ, hF⟩ := R
  have h1 := hO q hq
  unfold vr
  show (if i = 0 then 36 else (upd T.I li (T.O (q + 1)) i).toInt.toNat) = _
  by_cases h2 : i = li
  · subst h2
    rw [if_neg (by omega), if_pos rfl, pk_us, h1.1, nI_toInt (by omega)]
    omega
  · rw [if_neg h2]
    by_cases h3 : i = 0
    · rw [if_pos h3, if_pos h3]
    · rw [if_neg h3, if_neg h3, pk_un h2]
theorem rt_step (R : Rt T M) {li q : Nat} (hl0 : 1 ≤ li) (hl : li ≤ T.h) (hq : q < T.w) (hp : 0 < M.ta (13 * vr T li + q)) (hf : sfM T li (q + 1) 0 (T.h + 1) = true) (M2 : MS) (b1 : M2.co = M.co) (b2 : M2.ln = M.ln) (b3 : M2.dn = M.ta (13 * vr T li + q)) (b4 : M2.pl = va_up (va_up M.pl (M.ou q) none) (vr T li) (some q)) (b5 : M2.ou = va_up M.ou q (vr T li)) (b6 : M2.ta = spT M (vr T li) q) : Rt (chM T li (q + 1)) M2 := by
  have R2 := R
  obtain ⟨⟨a1, a2, a3, hw, hh⟩, hI, hJ, hU, hO, hP, hC, hZ, hF⟩ := R2
  have hlv := hI li hl0 hl
  have hoq := hO q hq
  have hne : ¬ vr T li = M.ou q := fun z => by
    rw [← z, hlv.2.2] at hoq
    cases hoq.2.2
  have hpl : ∀ v, M2.pl v = if v = vr T li then some q else if v = M.ou q then none else M.pl v := fun v => by rw [b4]; rfl
  have hou : ∀ k, M2.ou k = if k = q then vr T li else M.ou k := fun k => by rw [b5]; rfl
  have hvr : ∀ i, vr (chM T li (q + 1)) i = if i = li then M.ou q else vr T i := fun i => ch_vr R hl0 hq
  have hta : ∀ x y, x < 37 → y < 13 → M2.ta (13 * x + y) = _ := fun x y hx hy => (congrFun b6 _).trans (spT_at M _ q hne x y hx hy)
  have hcc : ∀ x y, x ≤ T.h → y ≤ T.w → (chM T li (q + 1)).C (x * 13 + y) = _ := fun x y hx hy => chM_at T li (q + 1) hw (by omega) hl x y hx hy
  have ew : (chM T li (q + 1)).w = T.w := rfl
  have eh : (chM T li (q + 1)).h = T.h := rfl
  have ed : (chM T li (q + 1)).d = T.C (li * 13 + (q + 1)) := rfl
  rw [C_at R hl hq] at hp b3
  have hnu : ∀ i, 1 ≤ i → i ≤ T.h → ¬ vr T i = M.ou q := fun i h1 h2 z => by
    have h3 := (hI i h1 h2).2.2
    rw [z, hoq.2.2] at h3
    cases h3
  refine ⟨⟨by rw [b1, ew, a1], by rw [b2, eh, a2], by rw [b3, ed], by rw [ew]; exact hw, by rw [eh]; exact hh⟩, ?_, ?_, ?_, ?_, ?_, ?_, ?_, ?_⟩
  · intro i h1 h2
    rw [eh] at h2
    rw [hvr, hpl, ew, eh]
    by_cases h3 : i = li
    · rw [if_pos h3]
      refine ⟨hoq.2.1, ?_, ?_⟩
      · show upd T.I li (T.O (q + 1)) i = _
        rw [h3, pk_us]; exact hoq.1
      · rw [if_neg (fun z => hne z.symm), if_pos rfl]
    · rw [if_neg h3]
      refine ⟨(hI i h1 h2).1, ?_, ?_⟩
      · show upd T.I li (T.O (q + 1)) i = _
        rw [pk_un h3]; exact (hI i h1 h2).2.1
      · rw [if_neg (fun z => h3 (vr_inj R h2 hl z)), if_neg (hnu i h1 h2)]
        exact (hI i h1 h2).2.2
  · intro v h1 h2
    rw [ew, eh] at h1
    rw [hpl] at h2
    by_cases h3 : v = vr T li
    · rw [if_pos h3] at h2; cases h2
    · rw [if_neg h3] at h2
      by_cases h4 : v = M.ou q
      · exact ⟨li, hl0, by rw [eh]; exact hl, by rw [hvr, if_pos rfl, h4]⟩
      · rw [if_neg h4] at h2
        obtain ⟨i, h5, h6, h7⟩ := hJ v h1 h2
        exact ⟨i, h5, by rw [eh]; exact h6, by rw [hvr, if_neg (fun z => h3 (by rw [← h7, z]))]; exact h7⟩
  · intro i j h1 h2 h3 h4 h5
    rw [eh] at h2 h4
    rw [hvr, hvr] at h5
    by_cases h6 : i = li
    · by_cases h7 : j = li
      · omega
      · rw [if_pos h6, if_neg h7] at h5
        exact absurd h5.symm (hnu j h3 h4)
    · by_cases h7 : j = li
      · rw [if_neg h6, if_pos h7] at h5
        exact absurd h5 (hnu i h1 h2)
      · rw [if_neg h6, if_neg h7] at h5
        exact hU i j h1 h2 h3 h4 h5
  · intro k hk
    rw [ew] at hk
    rw [hou, hpl, ew, eh]
    show upd T.O (q + 1) (T.I li) (k + 1) = _ ∧ _
    by_cases h1 : k = q
    · rw [if_pos h1, h1, pk_us, if_pos rfl]
      exact ⟨hlv.2.1, hlv.1, rfl⟩
    · rw [if_neg h1, pk_un (by omega)]
      have hk2 := hO k hk
      refine ⟨hk2.1, hk2.2.1, ?_⟩
      rw [if_neg (fun z => by rw [z, hlv.2.2] at hk2; cases hk2.2.2), if_neg (fun z => by rw [z, hoq.2.2] at hk2; exact h1 (Option.some.inj hk2.2.2).symm)]
      exact hk2.2.2
  · refine ⟨fun v k hv h => ?_, fun v k h => ?_, fun k => ?_⟩
    · rw [hpl] at h
      rw [ew, hou]
      by_cases h3 : v = vr T li
      · rw [if_pos h3] at h
        cases h
        exact ⟨hq, by rw [if_pos rfl, h3]⟩
      · rw [if_neg h3] at h
        by_cases h4 : v = M.ou q
        · rw [if_pos h4] at h; cases h
        · rw [if_neg h4] at h
          obtain ⟨h5, h6⟩ := hP.1 v k hv h
          exact ⟨h5, by rw [if_neg (fun z => h4 (by rw [← h6, z]))]; exact h6⟩
    · rw [hpl] at h
      by_cases h3 : v = vr T li
      · rw [if_pos h3] at h
        cases h
        omega
      · rw [if_neg h3] at h
        by_cases h4 : v = M.ou q
        · rw [if_pos h4] at h; cases h
        · rw [if_neg h4] at h
          exact hP.2.1 v k h
    · rw [hou]
      split
      · have := hlv.1; omega
      · exact hP.2.2 k
  · intro i hi y hy
    rw [eh] at hi
    rw [ew] at hy
    have hpy : plc y ≤ T.w := by unfold plc; split <;> omega
    have hpq : plc y = q + 1 ↔ y = q := by unfold plc; split <;> omega
    rw [hvr, hcc _ _ hi hpy]
    by_cases h1 : i = li
    · rw [if_pos h1, if_pos h1, hta _ _ (by omega) (by omega), if_pos rfl]
      by_cases h2 : y = q
      · rw [if_pos h2, if_pos (hpq.mpr h2), a3]
      · rw [if_neg h2, if_neg (fun z => h2 (hpq.mp z)), hC li hl y hy]
    · rw [if_neg h1, if_neg h1]
      have hxn : ¬ vr T i = M.ou q := by
        by_cases h0 : i = 0
        · rw [h0, vr_0]
          have := hoq.2.1
          omega
        · exact hnu i (by omega) hi
      rw [hta _ _ (vr_lt R hi) (by omega), if_neg hxn, if_pos ⟨(in_iff R).mpr ⟨i, hi, rfl⟩, fun z => h1 (vr_inj R hi hl z)⟩]
      by_cases h2 : y = q
      · rw [if_pos (hpq.mpr h2), h2, spX, if_pos rfl, C_at R hi hq, plc, if_neg (by omega)]
      · rw [if_neg (fun z => h2 (hpq.mp z)), sp_af R hl hi hq hy h2]
  · intro v y hv h1 h2
    rw [ew] at h1
    rw [hta v y hv (by omega)]
    split
    · rw [if_neg (by omega), hZ _ y (vr_lt R hl) h1 h2]; rfl
    · split
      · exact sp_0 R hl hv hq h1 h2
      · exact hZ v y hv h1 h2
  · refine ⟨fun i hi y hy => ?_, ?_, ?_⟩
    · rw [eh] at hi
      rw [ew] at hy
      rw [hcc i y hi hy]
      by_cases h1 : i = li
      · rw [if_pos h1]
        split
        · exact hF.2.1
        · exact f9_neg (hF.1 li hl y hy)
      · rw [if_neg h1]
        split
        · exact hF.1 i hi y hy
        · rename_i h2
          exact (sfM_b T li (q + 1) (T.h + 1) 0).mp hf i (by omega) (by omega) h1 y hy h2
    · rw [ed]; exact hF.1 li hl _ (by omega)
    · rw [ed]; exact hp
end
