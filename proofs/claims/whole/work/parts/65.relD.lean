/-! right sides move -/
theorem rmL_at (M : MS) (r q : Nat) (b : Int64) : ∀ (n k : Nat) (t : Nat → Int64) (f : Bool) (x : Nat), (rmL M r q b k n t f).1 x = if (k ≤ x ∧ x < k + n) ∧ inB M x = true then rmX M r q b x else t x := by
  intro n
  induction n with
  | zero => intro k t f x; rw [if_neg (by omega)]; rfl
  | succ n ih =>
    intro k t f x
    rw [rmL]
    by_cases hv : inB M k = true
    · rw [if_pos hv, ih]
      by_cases h3 : x = k
      · subst h3
        rw [if_neg (by omega), if_pos ⟨by omega, hv⟩, pk_uLs]
      · rw [pk_uLn h3]
        by_cases h4 : (k + 1 ≤ x ∧ x < k + 1 + n) ∧ inB M x = true
        · rw [if_pos h4, if_pos ⟨by omega, h4.2⟩]
        · rw [if_neg h4, if_neg (fun z => h4 ⟨by omega, z.2⟩)]
    · rw [if_neg hv, ih]
      by_cases h4 : (k + 1 ≤ x ∧ x < k + 1 + n) ∧ inB M x = true
      · rw [if_pos h4, if_pos ⟨by omega, h4.2⟩]
      · rw [if_neg h4, if_neg (fun z => ?_)]
        by_cases h3 : x = k
        · rw [h3] at z; exact hv z.2
        · exact h4 ⟨by omega, z.2⟩
theorem rmL_b (M : MS) (r q : Nat) (b : Int64) : ∀ (n k : Nat) (t : Nat → Int64) (f : Bool), (rmL M r q b k n t f).2 = true ↔ f = true ∧ ∀ x, k ≤ x → x < k + n → inB M x = true → fits9 (rmX M r q b x) = true := by
  intro n
  induction n with
  | zero => intro k t f; exact ⟨fun h => ⟨h, fun y h1 h2 => by omega⟩, fun h => h.1⟩
  | succ n ih =>
    intro k t f
    rw [rmL]
    by_cases hv : inB M k = true
    · rw [if_pos hv, ih, Bool.and_eq_true, gr_fits]
      constructor
      · intro ⟨⟨h1, h2⟩, h3⟩
        refine ⟨h1, fun x h4 h5 h6 => ?_⟩
        by_cases h9 : x = k
        · rw [h9]; exact h2
        · exact h3 x (by omega) (by omega) h6
      · intro ⟨h1, h2⟩
        exact ⟨⟨h1, h2 k (by omega) (by omega) hv⟩, fun x h4 h5 => h2 x (by omega) (by omega)⟩
    · rw [if_neg hv, ih]
      constructor
      · intro ⟨h1, h2⟩
        refine ⟨h1, fun x h4 h5 h6 => ?_⟩
        by_cases h9 : x = k
        · rw [h9] at h6; exact absurd h6 hv
        · exact h2 x (by omega) (by omega) h6
      · intro ⟨h1, h2⟩
        exact ⟨h1, fun x h4 h5 => h2 x (by omega) (by omega)⟩
theorem rcL_at (M : MS) (nx : Nat → Int64) : ∀ (n k : Nat) (u : Nat → Int64) (x y : Nat), y < 13 → rcL M nx k n u (13 * x + y) = if (k ≤ x ∧ x < k + n) ∧ inB M x = true ∧ y = 12 then nx x else u (13 * x + y) := by
  intro n
  induction n with
  | zero => intro k u x y hy; rw [if_neg (by omega)]; rfl
  | succ n ih =>
    intro k u x y hy
    rw [rcL, ih _ _ _ _ hy]
    by_cases hv : inB M k = true
    · rw [if_pos hv, updR_13 _ _ _ _ _ _ (by omega) hy]
      by_cases h3 : x = k ∧ y = 12
      · obtain ⟨rfl, rfl⟩ := h3
        rw [if_neg (by omega), if_pos ⟨rfl, rfl⟩, if_pos ⟨by omega, hv, rfl⟩]
      · rw [if_neg h3]
        by_cases h4 : (k + 1 ≤ x ∧ x < k + 1 + n) ∧ inB M x = true ∧ y = 12
        · rw [if_pos h4, if_pos ⟨by omega, h4.2⟩]
        · rw [if_neg h4, if_neg (fun z => h4 ⟨by omega, z.2⟩)]
    · rw [if_neg hv]
      by_cases h4 : (k + 1 ≤ x ∧ x < k + 1 + n) ∧ inB M x = true ∧ y = 12
      · rw [if_pos h4, if_pos ⟨by omega, h4.2⟩]
      · rw [if_neg h4, if_neg (fun z => ?_)]
        by_cases h3 : x = k
        · rw [h3] at z; exact hv z.2.1
        · exact h4 ⟨by omega, z.2⟩
section
variable {T : TS} {M : MS}
theorem mc_eq (R : Rt T M) {q i : Nat} (b : Int64) (hq : q < T.w + T.h) (hi : i ≤ T.h) : mcM T (nI q) b i = T.S i + mvR M (vr T i) q (-b) := by
  have R2 := R
  obtain ⟨⟨a1, a2, a3, hw, hh⟩, hI, hJ, hU, hO, hP, hC, hZ, hF⟩ := R2
  unfold mcM mvR
  cases hp : M.pl q with
  | none =>
    obtain ⟨i0, h1, h2, h3, h4⟩ := fi_some R hq hp
    rw [h1]
    show vp_updL T.S i0 (T.S i0 + T.d * b) i = T.S i + (if vr T i = q then -M.dn * -b else 0)
    by_cases h5 : i = i0
    · subst h5
      rw [pk_uLs, if_pos h4, a3, Int64.neg_mul_neg]
    · rw [pk_uLn h5, if_neg (fun z => h5 (vr_inj R hi h3 (z.trans h4.symm))), Int64.add_zero]
  | some k =>
    obtain ⟨h1, h2⟩ := fo_some R (by omega) hp
    rw [fi_none R (by omega) hp, h1]
    show mcL T.C (k + 1) b 0 (T.h + 1) T.S i = T.S i + M.ta (13 * vr T i + k) * -b
    rw [mcL_at, if_pos (by omega), C_at R hi h2]
    grind
theorem rt_move (R : Rt T M) {S2 : Nat → Int64} {nx : Nat → Int64} {M2 : MS} (hS : ∀ i, i ≤ T.h → fits9 (S2 i) = true) (hn : ∀ i, i ≤ T.h → nx (vr T i) = S2 i) (b1 : M2.co = M.co) (b2 : M2.ln = M.ln) (b3 : M2.dn = M.dn) (b4 : M2.pl = M.pl) (b5 : M2.ou = M.ou) (b6 : M2.ta = rcL M nx 0 37 M.ta) : Rt (ts (tkL S2 0 (T.h + 1) T.C) T.I T.O T.G S2 T.w T.h T.d) M2 := by
  have R2 := R
  obtain ⟨⟨a1, a2, a3, hw, hh⟩, hI, hJ, hU, hO, hP, hC, hZ, hF⟩ := R2
  refine ⟨⟨b1.trans a1, b2.trans a2, b3.trans a3, hw, hh⟩, ?_, ?_, hU, ?_, ?_, ?_, ?_, ?_⟩
  · intro i h1 h2
    rw [b4]
    exact hI i h1 h2
  · intro v h1 h2
    rw [b4] at h2
    exact hJ v h1 h2
  · intro k hk
    rw [b5, b4]
    exact hO k hk
  · unfold RtP
    rw [b5, b4]
    exact hP
  · intro i hi y hy
    have hi : i ≤ T.h := hi
    have hy : y < T.w ∨ y = 12 := hy
    show M2.ta (13 * vr T i + y) = tkL S2 0 (T.h + 1) T.C (i * 13 + plc y)
    rw [b6, rcL_at _ _ _ _ _ _ _ (by omega), tkL_at _ _ _ _ _ _ (by unfold plc; split <;> omega)]
    by_cases h1 : y = 12
    · have := vr_lt R hi
      rw [if_pos ⟨by omega, (in_iff R).mpr ⟨i, hi, rfl⟩, h1⟩, if_pos ⟨by rw [h1]; rfl, by omega, by omega⟩]
      exact hn i hi
    · rw [if_neg (fun z => h1 z.2.2), if_neg (fun z => by unfold plc at z; rw [if_neg h1] at z; omega)]
      exact hC i hi y hy
  · intro v y hv h1 h2
    rw [b6, rcL_at _ _ _ _ _ _ _ (by omega), if_neg (fun z => by omega)]
    exact hZ v y hv h1 h2
  · refine ⟨fun i hi y hy => ?_, hF.2⟩
    have hi : i ≤ T.h := hi
    have hy : y ≤ T.w := hy
    show fits9 (tkL S2 0 (T.h + 1) T.C (i * 13 + y)) = true
    rw [tkL_at _ _ _ _ _ _ (by omega)]
    split
    · exact hS i hi
    · exact hF.1 i hi y hy
theorem sg_neg (K : Nat → Int32) (r j : Nat) (b : Int64) : -((-(sgM K r j)).toInt64 * b) = if K r = 1 ∨ j = 1 then -b else b := by
  unfold sgM
  split
  · show -((1 : Int64) * b) = -b
    rw [Int64.one_mul]
  · show -((-1 : Int64) * b) = b
    grind
theorem mvL_eq (R : Rt T M) {K L : Nat → Int32} {r l9 : Nat} (b : Int64) (hki : M.ki = K) (hL : L r = nI l9) (hl : l9 + lnM K r ≤ T.h) : ∃ S2 : Nat → Int64, mvL K L r b 0 (lnM K r) (ts T.C T.I T.O T.G (csL T.C 0 (T.h + 1) T.S) T.w T.h T.d) = ts T.C T.I T.O T.G S2 T.w T.h T.d ∧ ∀ i, i ≤ T.h → S2 i = rmX M r (T.w + l9) b (vr T i) := by
  have R2 := R
  obtain ⟨⟨a1, a2, a3, hw, hh⟩, hI, hJ, hU, hO, hP, hC, hZ, hF⟩ := R2
  subst hki
  have e0 : ∀ j, nI T.w + L r + nI j = nI (T.w + l9 + j) := fun j => by rw [hL, nI_add, nI_add]
  have hcs : ∀ i, i ≤ T.h → csL T.C 0 (T.h + 1) T.S i = M.ta (13 * vr T i + 12) := fun i hi => by
    rw [csL_at, if_pos (by omega)]
    exact (hC i hi 12 (Or.inr rfl)).symm
  have hm : ∀ (S : Nat → Int64) (q i : Nat) (b : Int64), q < T.w + T.h → i ≤ T.h → mcM (ts T.C T.I T.O T.G S T.w T.h T.d) (nI q) b i = S i + mvR M (vr T i) q (-b) := fun S q i b h1 h2 => mc_eq (T := ts T.C T.I T.O T.G S T.w T.h T.d) (M := M) R b h1 h2
  by_cases h2 : M.ki r = 2
  · rw [lnM, if_pos h2] at hl ⊢
    refine ⟨_, rfl, fun i hi => ?_⟩
    show mcM (ts T.C T.I T.O T.G (mcM (ts T.C T.I T.O T.G (csL T.C 0 (T.h + 1) T.S) T.w T.h T.d) (nI T.w + L r + nI 0) ((-(sgM M.ki r 0)).toInt64 * b)) T.w T.h T.d) (nI T.w + L r + nI 1) ((-(sgM M.ki r 1)).toInt64 * b) i = _
    have n1 : ¬ M.ki r = 1 := by rw [h2]; decide
    rw [e0, e0, hm _ _ _ _ (by omega) hi, hm _ _ _ _ (by omega) hi, hcs i hi, sg_neg, sg_neg, if_pos (Or.inr rfl), if_neg (by intro z; rcases z with z | z; exact n1 z; omega)]
    unfold rmX
    rw [if_neg n1, if_pos h2, Int64.add_assoc]
    rfl
  · rw [lnM, if_neg h2] at hl ⊢
    refine ⟨_, rfl, fun i hi => ?_⟩
    show mcM (ts T.C T.I T.O T.G (csL T.C 0 (T.h + 1) T.S) T.w T.h T.d) (nI T.w + L r + nI 0) ((-(sgM M.ki r 0)).toInt64 * b) i = _
    rw [e0, hm _ _ _ _ (by omega) hi, hcs i hi, sg_neg]
    unfold rmX
    rw [if_neg h2, Int64.add_zero]
    by_cases h1 : M.ki r = 1
    · rw [if_pos (Or.inl h1), if_pos h1]; rfl
    · rw [if_neg (by intro z; rcases z with z | z; exact h1 z; omega), if_neg h1]; rfl
theorem mv_eq (R : Rt T M) {K L : Nat → Int32} {r l9 : Nat} (b : Int64) (hki : M.ki = K) (hL : L r = nI l9) (hl : l9 + lnM K r ≤ T.h) : (mvM K L T r b).1 = (rmN M r (T.w + l9) b).2 ∧ ((mvM K L T r b).1 = true → ∀ M2 : MS, M2.co = M.co → M2.ln = M.ln → M2.dn = M.dn → M2.pl = M.pl → M2.ou = M.ou → M2.ta = rcL M (rmN M r (T.w + l9) b).1 0 37 M.ta → Rt (mvM K L T r b).2 M2) ∧ (mvM K L T r b).2.w = T.w ∧ (mvM K L T r b).2.h = T.h ∧ ((mvM K L T r b).1 = false → (mvM K L T r b).2.C = T.C ∧ (mvM K L T r b).2.I = T.I ∧ (mvM K L T r b).2.O = T.O ∧ (mvM K L T r b).2.d = T.d) := by
  obtain ⟨S2, h1, h2⟩ := mvL_eq R b hki hL hl
  unfold mvM
  rw [h1]
  show allF S2 0 (T.h + 1) = _ ∧ (allF S2 0 (T.h + 1) = true → ∀ M2 : MS, _ → _ → _ → _ → _ → _ → Rt (ts (if allF S2 0 (T.h + 1) then tkL S2 0 (T.h + 1) T.C else T.C) T.I T.O T.G S2 T.w T.h T.d) M2) ∧ T.w = T.w ∧ T.h = T.h ∧ (allF S2 0 (T.h + 1) = false → (if allF S2 0 (T.h + 1) then tkL S2 0 (T.h + 1) T.C else T.C) = T.C ∧ T.I = T.I ∧ T.O = T.O ∧ T.d = T.d)
  refine ⟨?_, ?_, rfl, rfl, fun z => ?_⟩
  · rw [Bool.eq_iff_iff, allF_iff, rmN, rmL_b]
    constructor
    · intro h
      refine ⟨rfl, fun x h3 h4 h5 => ?_⟩
      obtain ⟨i, h6, rfl⟩ := (in_iff R).mp h5
      rw [← h2 i h6]
      exact h i (by omega) (by omega)
    · intro ⟨_, h⟩ i h3 h4
      rw [h2 i (by omega)]
      have := vr_lt R (i := i) (by omega)
      exact h _ (by omega) (by omega) ((in_iff R).mpr ⟨i, by omega, rfl⟩)
  · intro hz M2 b1 b2 b3 b4 b5 b6
    rw [if_pos hz]
    refine rt_move R (fun i hi => (allF_iff _ _ _).mp hz i (by omega) (by omega)) (fun i hi => ?_) b1 b2 b3 b4 b5 b6
    have := vr_lt R hi
    rw [rmN, rmL_at, if_pos ⟨by omega, (in_iff R).mpr ⟨i, hi, rfl⟩⟩, h2 i hi]
  · rw [if_neg (by rw [z]; exact Bool.false_ne_true)]
    exact ⟨rfl, rfl, rfl, rfl⟩
end
/-! a run -/
def lsum (K : Nat → Int32) : Nat → Nat
  | 0 => 0
  | n + 1 => lsum K n + lnM K n
theorem lsum_le (K : Nat → Int32) : ∀ n, lsum K n ≤ 2 * n := by
  intro n
  induction n with
  | zero => exact Nat.le_refl _
  | succ n ih =>
    have := lnM_le K n
    rw [lsum]; omega
theorem lsum_mono (K : Nat → Int32) {r : Nat} : ∀ {n : Nat}, r < n → lsum K r + lnM K r ≤ lsum K n := by
  intro n
  induction n with
  | zero => intro h; omega
  | succ n ih =>
    intro h
    rw [lsum]
    by_cases h2 : r = n
    · rw [h2]; exact Nat.le_refl _
    · have := ih (by omega); omega
theorem lsum_upd (K : Nat → Int32) (k : Nat) (x : Int32) : ∀ n, n ≤ k → lsum (upd K k x) n = lsum K n := by
  intro n
  induction n with
  | zero => intro _; rfl
  | succ n ih =>
    intro h
    rw [lsum, lsum, ih (by omega), lnM, lnM, pk_un (show n ≠ k by omega)]
def Rr (K : Nat → Int32) (rin : Nat) (T : TS) (M : MS) : Prop := T.h = lsum K rin ∧ (∀ r, r < 12 → M.li r = if r < rin then some (T.w + lsum K r) else none) ∧ (∀ r v, M.li r = some v → v < 36)
def fr (M M2 : MS) : Prop := M2.thr = M.thr ∧ M2.wk = M.wk ∧ M2.ro = M.ro ∧ M2.ki = M.ki ∧ M2.wo = M.wo ∧ M2.ri = M.ri ∧ M2.fa = M.fa ∧ M2.hr = M.hr
theorem fr_refl (M : MS) : fr M M := ⟨rfl, rfl, rfl, rfl, rfl, rfl, rfl, rfl⟩
theorem fr_trans {A B C : MS} (h1 : fr A B) (h2 : fr B C) : fr A C := by
  obtain ⟨a1, a2, a3, a4, a5, a6, a7, a8⟩ := h1
  obtain ⟨b1, b2, b3, b4, b5, b6, b7, b8⟩ := h2
  exact ⟨b1.trans a1, b2.trans a2, b3.trans a3, b4.trans a4, b5.trans a5, b6.trans a6, b7.trans a7, b8.trans a8⟩
theorem cm_fr (M : MS) (r : Nat) : fr M (cmM M r).2 ∧ (cmM M r).2.ag = M.ag ∧ (cmM M r).2.st = M.st ∧ (cmM M r).2.co = M.co := by
  unfold cmM
  split
  · exact ⟨⟨rfl, rfl, rfl, rfl, rfl, rfl, rfl, rfl⟩, rfl, rfl, rfl⟩
  · exact ⟨fr_refl M, rfl, rfl, rfl⟩
theorem sp_fr (M : MS) (le q : Nat) : fr M (spM M le q).2 ∧ (spM M le q).2.ag = M.ag ∧ (spM M le q).2.li = M.li ∧ (spM M le q).2.co = M.co ∧ (spM M le q).2.ln = M.ln := by
  unfold spM
  split
  · exact ⟨⟨rfl, rfl, rfl, rfl, rfl, rfl, rfl, rfl⟩, rfl, rfl, rfl, rfl⟩
  · exact ⟨⟨rfl, rfl, rfl, rfl, rfl, rfl, rfl, rfl⟩, rfl, rfl, rfl, rfl⟩
section
variable {T : TS} {M : MS}
theorem sp_step (R : Rt T M) {li q : Nat} (hl : lvM T 1 T.h none = some li) (hq : enR M (vr T li) 0 M.co none = some q) : (spM M (vr T li) q).1 = sfM T li (q + 1) 0 (T.h + 1) ∧ ((spM M (vr T li) q).1 = true → Rt (chM T li (q + 1)) (spM M (vr T li) q).2 ∧ (spM M (vr T li) q).2.st = M.st + 1) ∧ ((spM M (vr T li) q).1 = false → Rt T (spM M (vr T li) q).2 ∧ (spM M (vr T li) q).2.st = M.st) := by
  obtain ⟨h0, h1, h2, h3⟩ := lv_some R hl
  have h4 : q < T.w := by
    have := enR_lt hq (fun o h => by cases h)
    have := R.1.1
    omega
  have h5 := enR_pos M.co 0 none q (fun o h => by cases h) hq
  have h6 := sf_eq R h2 h4
  unfold spM
  by_cases hc : (spN M (vr T li) q).2 = true
  · rw [if_pos hc]
    refine ⟨by rw [h6, hc], fun _ => ⟨rt_step R h1 h2 h4 h5 (by rw [h6, hc]) _ rfl rfl rfl rfl rfl rfl, rfl⟩, fun z => Bool.noConfusion (show true = false from z)⟩
  · rw [if_neg hc]
    have hc2 : (spN M (vr T li) q).2 = false := Bool.eq_false_iff.mpr hc
    exact ⟨by rw [h6, hc2], fun z => Bool.noConfusion (show false = true from z), fun _ => ⟨R, rfl⟩⟩
theorem k_step (R : Rt T M) {le q : Nat} (h1 : lvR M 0 (M.co + M.ln) = some le) (h2 : enR M le 0 M.co none = some q) (h3 : (spM M le q).1 = true) : ∃ T2, Rt T2 (spM M le q).2 := by
  cases hv : lvM T 1 T.h none with
  | none => rw [lv_none R hv] at h1; cases h1
  | some li =>
    have h4 := (lv_some R hv).1
    rw [h1] at h4
    cases h4
    exact ⟨_, ((sp_step R hv h2).2.1 h3).1⟩
theorem dsL_0 {n : Nat} {s : Int32} (h : lvM T 1 T.h none = none) : dsL (n + 1) T s = (0, T, s) := by simp only [dsL, h]
theorem dsL_1 {n li : Nat} {s : Int32} (h : lvM T 1 T.h none = some li) (h2 : enM T li 1 T.w none = none) : dsL (n + 1) T s = (1, T, s) := by simp only [dsL, h, h2]
theorem dsL_2 {li en : Nat} {s : Int32} (h : lvM T 1 T.h none = some li) (h2 : enM T li 1 T.w none = some en) : dsL (0 + 1) T s = (2, T, s) := by simp [dsL, h, h2]
theorem dsL_3 {n li en : Nat} {s : Int32} (h : lvM T 1 T.h none = some li) (h2 : enM T li 1 T.w none = some en) : dsL (n + 1 + 1) T s = if sfM T li en 0 (T.h + 1) = true then dsL (n + 1) (chM T li en) (s + 1) else (3, T, s) := by
  rw [dsL, h]
  simp only [h2]
  rw [if_neg (by omega)]
theorem ruE_0 {n : Nat} (h : lvR M 0 (M.co + M.ln) = none) : ruE n M = (nI 0, M) := by cases n <;> simp only [ruE, h]
theorem ruE_1 {n le : Nat} (h : lvR M 0 (M.co + M.ln) = some le) (h2 : enR M le 0 M.co none = none) : ruE n M = (nI 1, mAg M (some le)) := by cases n <;> simp only [ruE, h, h2]
theorem ruE_2 {le q : Nat} (h : lvR M 0 (M.co + M.ln) = some le) (h2 : enR M le 0 M.co none = some q) : ruE 0 M = (nI 2, M) := by simp only [ruE, h, h2]
theorem ruE_3 {n le q : Nat} (h : lvR M 0 (M.co + M.ln) = some le) (h2 : enR M le 0 M.co none = some q) : ruE (n + 1) M = if (spM M le q).1 = true then ruE n (spM M le q).2 else (nI 3, (spM M le q).2) := by
  rw [ruE, h]
  simp only [h2]
def dsP9 (T : TS) (M : MS) (D : Int32 × TS × Int32) (E : Int32 × MS) : Prop := D.1 = E.1 ∧ Rt D.2.1 E.2 ∧ E.2.st = D.2.2 ∧ fr M E.2 ∧ E.2.li = M.li ∧ D.2.1.w = T.w ∧ D.2.1.h = T.h ∧ (D.1 = 1 → ∃ i, lvM D.2.1 1 D.2.1.h none = some i ∧ E.2.ag = some (vr D.2.1 i)) ∧ (¬ D.1 = 1 → E.2.ag = M.ag)
theorem ds_eq : ∀ (n : Nat) (T : TS) (M : MS) (s : Int32), Rt T M → M.st = s → dsP9 T M (dsL (n + 1) T s) (ruE n M) := by
  intro n
  induction n with
  | zero =>
    intro T M s R hs
    cases hv : lvM T 1 T.h none with
    | none =>
      rw [dsL_0 hv, ruE_0 (lv_none R hv)]
      exact ⟨(by decide : (0 : Int32) = nI 0), R, hs, fr_refl M, rfl, rfl, rfl, fun z => absurd z (by decide : ¬ (0 : Int32) = 1), fun _ => rfl⟩
    | some li =>
      obtain ⟨h0, h1, h2, h3⟩ := lv_some R hv
      have h4 := en_eq2 R h2
      cases he : enR M (vr T li) 0 M.co none with
      | none =>
        rw [he] at h4
        rw [dsL_1 hv h4, ruE_1 h0 he]
        exact ⟨(by decide : (1 : Int32) = nI 1), R, hs, ⟨rfl, rfl, rfl, rfl, rfl, rfl, rfl, rfl⟩, rfl, rfl, rfl, fun _ => ⟨li, hv, rfl⟩, fun z => absurd rfl z⟩
      | some q =>
        rw [he] at h4
        rw [dsL_2 hv h4, ruE_2 h0 he]
        exact ⟨(by decide : (2 : Int32) = nI 2), R, hs, fr_refl M, rfl, rfl, rfl, fun z => absurd z (by decide : ¬ (2 : Int32) = 1), fun _ => rfl⟩
  | succ n ih =>
    intro T M s R hs
    cases hv : lvM T 1 T.h none with
    | none =>
      rw [dsL_0 hv, ruE_0 (lv_none R hv)]
      exact ⟨(by decide : (0 : Int32) = nI 0), R, hs, fr_refl M, rfl, rfl, rfl, fun z => absurd z (by decide : ¬ (0 : Int32) = 1), fun _ => rfl⟩
    | some li =>
      obtain ⟨h0, h1, h2, h3⟩ := lv_some R hv
      have h4 := en_eq2 R h2
      cases he : enR M (vr T li) 0 M.co none with
      | none =>
        rw [he] at h4
        rw [dsL_1 hv h4, ruE_1 h0 he]
        exact ⟨(by decide : (1 : Int32) = nI 1), R, hs, ⟨rfl, rfl, rfl, rfl, rfl, rfl, rfl, rfl⟩, rfl, rfl, rfl, fun _ => ⟨li, hv, rfl⟩, fun z => absurd rfl z⟩
      | some q =>
        rw [he] at h4
        obtain ⟨g1, g2, g3⟩ := sp_step R hv he
        obtain ⟨f1, f2, f3, f4, f5⟩ := sp_fr M (vr T li) q
        rw [dsL_3 hv h4, ruE_3 h0 he, ← g1]
        by_cases hc : (spM M (vr T li) q).1 = true
        · obtain ⟨R3, hs3⟩ := g2 hc
          rw [if_pos hc, if_pos hc]
          obtain ⟨i1, i2, i3, i4, i5, i6, i7, i8, i9⟩ := ih (chM T li (q + 1)) (spM M (vr T li) q).2 (s + 1) R3 (by rw [hs3, hs])
          exact ⟨i1, i2, i3, fr_trans f1 i4, i5.trans f3, i6, i7, i8, fun z => (i9 z).trans f2⟩
        · obtain ⟨R3, hs3⟩ := g3 (Bool.eq_false_iff.mpr hc)
          rw [if_neg hc, if_neg hc]
          exact ⟨(by decide : (3 : Int32) = nI 3), R3, hs3.trans hs, f1, f3, rfl, rfl, fun z => absurd z (by decide : ¬ (3 : Int32) = 1), fun _ => f2⟩
theorem cm_rr {F : Nat → Int32} {B : Nat → Int64} {K L : Nat → Int32} {r : Nat} (R : Rt T M) (hki : M.ki = K) (hfa : ∀ i, M.fa i = (F i).toInt64) (hri : M.ri = B) (hr : r < 12) (q : Rr K r T M) (hc : (cmM M r).1 = true) : Rr K (r + 1) (brM K B L F T r).2.1 (cmM M r).2 ∧ (∀ j, j < r + 1 → (∀ i, i < r → L i = nI (lsum K i)) → (brM K B L F T r).2.2 j = nI (lsum K j)) := by
  obtain ⟨q1, q2, q3⟩ := q
  have hs := lsum_le K r
  have hs2 := lnM_le K r
  obtain ⟨h1, h2, h3⟩ := cmx_eq (L := L) R hki hfa hri (by omega : T.h + lnM K r ≤ 24)
  obtain ⟨h4, h5⟩ := h3 hc
  have hw := brM_w K B L F T r
  have hli : (cmM M r).2.li = va_up M.li r (some (T.w + T.h)) := by
    have a1 := R.1.1
    have a2 := R.1.2.1
    unfold cmM at hc ⊢
    split
    · rw [← a1, ← a2]; rfl
    · rename_i hn
      rw [if_neg hn] at hc
      cases hc
  have hw12 := R.1.2.2.2.1
  refine ⟨⟨by rw [h4, lsum, q1], fun j hj => ?_, fun j v hv => ?_⟩, fun j hj hL => ?_⟩
  · rw [hli, hw]
    show (if j = r then some (T.w + T.h) else M.li j) = _
    by_cases h6 : j = r
    · rw [if_pos h6, if_pos (by omega), h6, q1]
    · rw [if_neg h6, q2 j hj]
      by_cases h7 : j < r
      · rw [if_pos h7, if_pos (by omega)]
      · rw [if_neg h7, if_neg (by omega)]
  · rw [hli] at hv
    have hv : (if j = r then some (T.w + T.h) else M.li j) = some v := hv
    by_cases h6 : j = r
    · rw [if_pos h6] at hv
      have := Option.some.inj hv
      omega
    · rw [if_neg h6] at hv
      exact q3 j v hv
  · rw [h5]
    by_cases h6 : j = r
    · rw [h6, pk_us, q1]
    · rw [pk_un h6]; exact hL j (by omega)
theorem bw_eq {F : Nat → Int32} {B : Nat → Int64} {K : Nat → Int32} : ∀ (n r : Nat) (T : TS) (M : MS) (L : Nat → Int32), Rt T M → M.ki = K → (∀ i, M.fa i = (F i).toInt64) → M.ri = B → Rr K r T M → r + n ≤ 12 → (∀ j, j < r → L j = nI (lsum K j)) →
    (bwL K B F r n T L r).1 = (ruL r n M).1 ∧ Rt (bwL K B F r n T L r).2.1 (ruL r n M).2 ∧ Rr K (bwL K B F r n T L r).2.2.2 (bwL K B F r n T L r).2.1 (ruL r n M).2 ∧ (∀ j, j < (bwL K B F r n T L r).2.2.2 → (bwL K B F r n T L r).2.2.1 j = nI (lsum K j)) ∧ (bwL K B F r n T L r).2.2.2 ≤ r + n ∧ fr M (ruL r n M).2 ∧ (ruL r n M).2.ag = M.ag ∧ (ruL r n M).2.st = M.st := by
  intro n
  induction n with
  | zero =>
    intro r T M L R hki hfa hri q hr hL
    exact ⟨rfl, R, q, hL, Nat.le_refl _, fr_refl M, rfl, rfl⟩
  | succ n ih =>
    intro r T M L R hki hfa hri q hr hL
    have hs := lsum_le K r
    have hs2 := lnM_le K r
    have q1 := q.1
    obtain ⟨h1, h2, h3⟩ := cmx_eq (L := L) R hki hfa hri (by omega : T.h + lnM K r ≤ 24)
    obtain ⟨f1, f2, f3, f4⟩ := cm_fr M r
    have hln : M.li r = none := by rw [q.2.1 r (by omega), if_neg (by omega)]
    rw [bwL, ruL, hln]
    simp only
    rw [h1]
    by_cases hc : (cmM M r).1 = true
    · rw [if_pos hc, if_pos hc]
      obtain ⟨g1, g2⟩ := cm_rr (L := L) R hki hfa hri (by omega) q hc
      obtain ⟨i1, i2, i3, i4, i5, i6, i7, i8⟩ := ih (r + 1) _ _ (brM K B L F T r).2.2 h2 (f1.2.2.2.1.trans hki) (fun i => by rw [f1.2.2.2.2.2.2.1]; exact hfa i) (f1.2.2.2.2.2.1.trans hri) g1 (by omega) (fun j hj => g2 j hj hL)
      exact ⟨i1, i2, i3, i4, by omega, fr_trans f1 i6, i7.trans f2, i8.trans f3⟩
    · rw [if_neg hc, if_neg hc]
      have hc2 : (cmM M r).1 = false := Bool.eq_false_iff.mpr hc
      have e1 : (cmM M r).2 = M := by
        unfold cmM at hc2 ⊢
        split
        · rename_i hn
          rw [if_pos hn] at hc2; cases hc2
        · rfl
      have e2 : (brM K B L F T r).2.2 = L ∧ (brM K B L F T r).2.1.h = T.h := by
        rw [← h1] at hc2
        unfold brM at hc2 ⊢
        split
        · rename_i hn
          rw [if_pos hn] at hc2; cases hc2
        · exact ⟨rfl, rfl⟩
      refine ⟨rfl, h2, ?_, fun j hj => ?_, (Nat.le_add_right r (n + 1) : r ≤ r + (n + 1)), f1, f2, f3⟩
      · show Rr K r (brM K B L F T r).2.1 (cmM M r).2
        rw [e1]
        refine ⟨e2.2.trans q1, fun j hj => ?_, q.2.2⟩
        rw [brM_w]
        exact q.2.1 j hj
      · show (brM K B L F T r).2.2 j = _
        rw [e2.1]
        exact hL j hj
theorem ru_skip {n : Nat} : ∀ (m r : Nat), (∀ j, r ≤ j → j < r + m → ∃ v, M.li j = some v) → ruL r (m + n) M = ruL (r + m) n M := by
  intro m
  induction m with
  | zero => intro r _; rw [Nat.zero_add, Nat.add_zero]
  | succ m ih =>
    intro r h
    obtain ⟨v, hv⟩ := h r (by omega) (by omega)
    rw [show m + 1 + n = (m + n) + 1 by omega, ruL, hv]
    simp only
    rw [ih (r + 1) (fun j h1 h2 => h j (by omega) (by omega)), show r + 1 + m = r + (m + 1) by omega]
theorem lvM_same {T2 : TS} (hC : T2.C = T.C) (hI : T2.I = T.I) : ∀ (n i : Nat) (b : Option Nat), lvM T2 i n b = lvM T i n b := by
  intro n
  induction n with
  | zero => intro i b; rfl
  | succ n ih =>
    intro i b
    have e1 : lvB T2 i b = lvB T i b := by
      unfold lvB
      rw [hC, hI]
    rw [lvM, lvM, ih, e1]
end
