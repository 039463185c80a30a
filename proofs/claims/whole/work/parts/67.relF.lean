/-! right, run, and what only reads -/
section
variable {P : PS} {F : Nat → Int32} {T : TS} {M : MS}
theorem rt_congr {T2 : TS} (R : Rt T M) (b1 : T2.C = T.C) (b2 : T2.I = T.I) (b3 : T2.O = T.O) (b4 : T2.w = T.w) (b5 : T2.h = T.h) (b6 : T2.d = T.d) : Rt T2 M := by
  have hv : ∀ i, vr T2 i = vr T i := fun i => by unfold vr; rw [b2]
  unfold Rt RtA RtI RtJ RtU RtO RtP RtC RtZ RtF
  simp only [hv, b1, b2, b3, b4, b5, b6]
  exact R
theorem o_right (R : Rel P F T M) (x : Int32) (v : Int64) : (riM M x v).2.thr = kRi P x v ∧ Rel (sRi P T x v).2.1 F (sRi P T x v).2.2 (riM M x v).2 ∧ (kRi P x v = 0 → (riM M x v).1 = (sRi P T x v).1) := by
  have R0 := R
  obtain ⟨Rt0, Rr0, ⟨⟨c1, c2, c3⟩, ⟨c4, c5, c6⟩, ⟨c7, c8, c9, c10⟩, c11, ⟨c12, c13⟩, c14⟩, Rg0⟩ := R
  have h1c : ∀ o, idx P.rows x = o → idx M.ro x = o := fun o h => by rw [c4]; exact h
  unfold riM sRi
  cases h1 : idx P.rows x with
  | none =>
    have e1 : kRi P x v = 1 := by simp only [kRi, h1]
    rw [h1c _ h1, e1]
    exact ⟨rfl, R0, fun z => (by cases z)⟩
  | some r =>
    have hr9 := (idx_some h1).1
    have e1 : kRi P x v = if v < -1000000 ∨ 1000000 < v then 2 else 0 := by simp only [kRi, h1]
    rw [h1c _ h1, e1]
    simp only
    by_cases h2 : v < -1000000 ∨ 1000000 < v
    · have h3 : ¬ isInB v (-1000000) 1000000 = true := by
        rw [in_of]
        intro z
        rcases h2 with h2 | h2
        · exact z.1 h2
        · exact z.2 h2
      rw [if_pos h2, if_neg h3]
      exact ⟨rfl, R0, fun z => (by cases z)⟩
    · have h3 : isInB v (-1000000) 1000000 = true := by
        rw [in_of]
        exact ⟨fun z => h2 (Or.inl z), fun z => h2 (Or.inr z)⟩
      rw [if_neg h2, if_pos h3, if_pos rfl]
      show _ ∧ Rel (rtM P T r v).2.1 F (rtM P T r v).2.2 _ ∧ (_ → _ = (rtM P T r v).1)
      unfold rtM
      by_cases h4 : P.rin ≤ r
      · have h5 : M.li r = none := (li_none R0 (by omega)).mpr (by omega)
        rw [if_pos h4, h5]
        refine ⟨rfl, ⟨Rt0, Rr0, ⟨⟨c1, c2, c3⟩, ⟨c4, c5, c6⟩, ⟨c7, c8, ?_, c10⟩, c11, ⟨c12, c13⟩, c14⟩, ?_⟩, fun _ => rfl⟩
        · show vp_updL M.ri r v = vp_updL P.B r v
          rw [c9]
        · exact ⟨fun z => absurd z (by decide : ¬ (-1 : Int32) = 1), fun _ => rfl, fun z => ⟨(Rg0.2.2 z).1, (by decide : ¬ (-1 : Int32) = 1)⟩⟩
      · have h5 : M.li r = some (T.w + lsum P.K r) := by rw [Rr0.2.1 r (by omega), if_pos (by omega)]
        rw [if_neg h4, h5]
        simp only
        have hl : lsum P.K r + lnM P.K r ≤ T.h := by rw [Rr0.1]; exact lsum_mono P.K (by omega)
        obtain ⟨g1, g2, g3, g4, g5⟩ := mv_eq Rt0 (v - P.B r) c7 (c14 r (by omega)) hl
        rw [show M.ri r = P.B r by rw [c9], ← g1]
        by_cases hc : (mvM P.K P.L T r (v - P.B r)).1 = true
        · rw [if_pos hc, if_pos hc]
          refine ⟨rfl, ⟨g2 hc _ rfl rfl rfl rfl rfl rfl, ⟨g4.trans Rr0.1, fun j hj => ?_, Rr0.2.2⟩, ⟨⟨c1, c2, c3⟩, ⟨c4, c5, c6⟩, ⟨c7, c8, ?_, c10⟩, c11, ⟨c12, c13⟩, c14⟩, ?_⟩, fun _ => hc.symm⟩
          · show M.li j = if j < P.rin then some ((mvM P.K P.L T r (v - P.B r)).2.w + lsum P.K j) else none
            rw [g3]; exact Rr0.2.1 j hj
          · show vp_updL M.ri r v = vp_updL P.B r v
            rw [c9]
          · exact ⟨fun z => absurd z (by decide : ¬ (-1 : Int32) = 1), fun _ => rfl, fun z => ⟨(Rg0.2.2 z).1, (by decide : ¬ (-1 : Int32) = 1)⟩⟩
        · rw [if_neg hc, if_neg hc]
          have hc2 := Bool.eq_false_iff.mpr hc
          obtain ⟨k1, k2, k3, k4⟩ := g5 hc2
          refine ⟨rfl, ⟨rt_congr (M := riF M (rmN M r (T.w + lsum P.K r) (v - P.B r)).1) Rt0 k1 k2 k3 g3 g4 k4, ⟨g4.trans Rr0.1, fun j hj => ?_, Rr0.2.2⟩, ⟨⟨c1, c2, c3⟩, ⟨c4, c5, c6⟩, ⟨c7, c8, c9, c10⟩, c11, ⟨c12, c13⟩, c14⟩, ?_⟩, fun _ => hc2.symm⟩
          · show M.li j = if j < P.rin then some ((mvM P.K P.L T r (v - P.B r)).2.w + lsum P.K j) else none
            rw [g3]; exact Rr0.2.1 j hj
          · refine ⟨fun z => ?_, Rg0.2.1, Rg0.2.2⟩
            obtain ⟨i, q1, q2⟩ := Rg0.1 z
            refine ⟨i, ?_, ?_⟩
            · rw [g4, lvM_same k1 k2]; exact q1
            · show M.ag = some (vr (mvM P.K P.L T r (v - P.B r)).2 i)
              rw [q2]
              unfold vr
              rw [k2]
theorem o_run (R : Rel P F T M) (x : Int32) : (ruM M x).2.thr = kRu x ∧ Rel (sRu P F T x).2.1 F (sRu P F T x).2.2 (ruM M x).2 ∧ (kRu x = 0 → (ruM M x).1 = (sRu P F T x).1) := by
  have R0 := R
  obtain ⟨Rt0, Rr0, ⟨⟨c1, c2, c3⟩, ⟨c4, c5, c6⟩, ⟨c7, c8, c9, c10⟩, c11, ⟨c12, c13⟩, c14⟩, Rg0⟩ := R
  unfold ruM sRu kRu
  cases h1 : idx 1001 x with
  | none => exact ⟨rfl, R0, fun z => (by cases z)⟩
  | some mo =>
    simp only
    have e0 : ruL 0 M.ro (ruS M) = ruL P.rin (P.rows - P.rin) (ruS M) := by
      have h := ru_skip (M := ruS M) (n := P.rows - P.rin) P.rin 0 (fun j h2 h3 => ⟨T.w + lsum P.K j, by
        show M.li j = _
        rw [Rr0.2.1 j (by omega), if_pos (by omega)]⟩)
      rw [show P.rin + (P.rows - P.rin) = M.ro by omega, Nat.zero_add] at h
      exact h
    have b := bw_eq (F := F) (B := P.B) (K := P.K) (P.rows - P.rin) P.rin T (ruS M) P.L Rt0 c7 c10 c9 Rr0 (by omega) c14
    rw [← e0] at b
    have eb : bwL P.K P.B F P.rin (P.rows - P.rin) T P.L P.rin = bwP P F T := rfl
    rw [eb] at b
    obtain ⟨b1, b2, b3, b4, b5, ⟨f1, f2, f3, f4, f5, f6, f7, f8⟩, b7, b8⟩ := b
    unfold ruP
    rw [b1]
    by_cases hc : (ruL 0 M.ro (ruS M)).1 = true
    · rw [if_pos hc, if_pos hc]
      have d := ds_eq mo (bwP P F T).2.1 (ruL 0 M.ro (ruS M)).2 P.stp b2 (b8.trans c13)
      have ed : dsL (mo + 1) (bwP P F T).2.1 P.stp = dsP P F T mo := rfl
      rw [ed] at d
      obtain ⟨d1, d2, d3, ⟨g1, g2, g3, g4, g5, g6, g7, g8⟩, d5, d6, d7, d8, d9⟩ := d
      refine ⟨g1.trans f1, ⟨d2, ⟨d7.trans b3.1, fun j hj => ?_, fun j q hq => ?_⟩, ⟨⟨(g2.trans f2).trans c1, c2, c3⟩, ⟨(g3.trans f3).trans c4, c5, ?_⟩, ⟨(g4.trans f4).trans c7, (g5.trans f5).trans c8, (g6.trans f6).trans c9, fun i => ?_⟩, c11, ⟨g8.trans f8, d3⟩, b4⟩, ?_⟩, fun _ => d1.symm⟩
      · show (ruE mo (ruL 0 M.ro (ruS M)).2).2.li j = if j < (bwP P F T).2.2.2 then some ((dsP P F T mo).2.1.w + lsum P.K j) else none
        rw [d5, d6]; exact b3.2.1 j hj
      · rw [d5] at hq
        exact b3.2.2 j q hq
      · show (bwP P F T).2.2.2 ≤ P.rows
        omega
      · rw [g7, f7]; exact c10 i
      · refine ⟨d8, fun z => (d9 z).trans b7, fun z => ?_⟩
        have z : true = false := z
        cases z
    · rw [if_neg hc, if_neg hc]
      refine ⟨f1, ⟨b2, b3, ⟨⟨f2.trans c1, c2, c3⟩, ⟨f3.trans c4, c5, ?_⟩, ⟨f4.trans c7, f5.trans c8, f6.trans c9, fun i => ?_⟩, c11, ⟨f8, b8.trans c13⟩, b4⟩, ?_⟩, fun _ => (by decide : nI 3 = (3 : Int32))⟩
      · show (bwP P F T).2.2.2 ≤ P.rows
        omega
      · rw [f7]; exact c10 i
      · refine ⟨fun z => absurd z (by decide : ¬ (3 : Int32) = 1), fun _ => b7, fun z => ?_⟩
        have z : true = false := z
        cases z
/-- what the reference's run rests on -/
def ruJ (M : MS) (i : Nat) (M2 : MS) : Prop := fr (ruS M) M2 ∧ ∃ (T2 : TS) (q : Nat), Rt T2 M2 ∧ Rr M.ki q T2 M2 ∧ i ≤ q
def ruK (M2 : MS) : Prop := ∃ T2 : TS, Rt T2 M2
theorem ruJ_f (hro : M.ro ≤ 12) (i : Nat) (M2 : MS) (h : ruJ M i M2) : M2.ro = M.ro ∧ M2.co ≤ 12 ∧ (∀ v k, M2.pl v = some k → k < 12) ∧ (∀ r v, M2.li r = some v → v < 36) ∧ (i < M2.ro → M2.li i = none → M2.co + M2.ln + lnM M2.ki i ≤ 36) := by
  obtain ⟨⟨f1, f2, f3, f4, f5, f6, f7, f8⟩, T2, q, R2, r2, hq⟩ := h
  have R3 := R2
  obtain ⟨⟨a1, a2, a3, hw, hh⟩, hI, hJ, hU, hO, hP, hC, hZ, hF⟩ := R3
  refine ⟨f3, by omega, hP.2.1, r2.2.2, fun h1 h2 => ?_⟩
  have f3 : M2.ro = M.ro := f3
  rw [r2.2.1 i (by omega)] at h2
  by_cases h3 : i < q
  · rw [if_pos h3] at h2; cases h2
  · have h4 := lsum_le M.ki q
    have h5 := lnM_le M2.ki i
    have h6 := r2.1
    omega
theorem ruJ_0 (R : Rel P F T M) : ruJ M 0 (ruS M) := by
  refine ⟨fr_refl _, T, P.rin, R.1, ?_, Nat.zero_le _⟩
  rw [R.2.2.1.2.2.1.1]
  exact R.2.1
theorem ruJ_1 (hro : M.ro ≤ 12) (i : Nat) (M2 : MS) (h : ruJ M i M2) (hi : i < M2.ro) (hv : ∃ v, M2.li i = some v) : ruJ M (i + 1) M2 := by
  obtain ⟨f, T2, q, R2, r2, hq⟩ := h
  refine ⟨f, T2, q, R2, r2, ?_⟩
  obtain ⟨v, hv⟩ := hv
  have f3 : M2.ro = M.ro := f.2.2.1
  rw [r2.2.1 i (by omega)] at hv
  by_cases h3 : i < q
  · omega
  · rw [if_neg h3] at hv; cases hv
theorem ruJ_2 (hro : M.ro ≤ 12) (hfa : ∀ i, M.fa i = (F i).toInt64) (i : Nat) (M2 : MS) (h : ruJ M i M2) (hi : i < M2.ro) (hv : M2.li i = none) (hc : (cmM M2 i).1 = true) : ruJ M (i + 1) (cmM M2 i).2 := by
  obtain ⟨f, T2, q, R2, r2, hq⟩ := h
  have f3 : M2.ro = M.ro := f.2.2.1
  have f4 : M2.ki = M.ki := f.2.2.2.1
  have f7 : M2.fa = M.fa := f.2.2.2.2.2.2.1
  have hqi : q = i := by
    rw [r2.2.1 i (by omega)] at hv
    by_cases h3 : i < q
    · rw [if_pos h3] at hv; cases hv
    · omega
  subst hqi
  have hfa2 : ∀ j, M2.fa j = (F j).toInt64 := fun j => by rw [f7]; exact hfa j
  have h5 := lsum_le M.ki q
  have h6 := lnM_le M.ki q
  have h7 := r2.1
  obtain ⟨g1, g2, g3⟩ := cmx_eq (B := M2.ri) (L := fun _ => 0) R2 f4 hfa2 rfl (by omega : T2.h + lnM M.ki q ≤ 24)
  obtain ⟨k1, k2⟩ := cm_rr (B := M2.ri) (L := fun _ => 0) R2 f4 hfa2 rfl (by omega) r2 hc
  exact ⟨fr_trans f (cm_fr M2 q).1, _, q + 1, g2, k1, Nat.le_refl _⟩
theorem ruK_f (M2 : MS) (h : ruK M2) : M2.co ≤ 12 ∧ (∀ v k, M2.pl v = some k → k < 12) ∧ M2.co + M2.ln ≤ 36 ∧ (∀ k, M2.ou k < 36) ∧ ¬ M2.dn = 0 := by
  obtain ⟨T2, R2⟩ := h
  obtain ⟨⟨a1, a2, a3, hw, hh⟩, hI, hJ, hU, hO, hP, hC, hZ, hF⟩ := R2
  refine ⟨by omega, hP.2.1, by omega, hP.2.2, fun z => ?_⟩
  rw [a3] at z
  have h := hF.2.2
  rw [z] at h
  exact Int64.lt_irrefl h
/-- answers -/
theorem pa_ok (pt : Int32) : paB pt = true ↔ (pt = 0 ∨ pt = 1) := by
  unfold paB
  rw [Bool.or_eq_true, decide_eq_true_iff, decide_eq_true_iff]
theorem o_value (R : Rel P F T M) (pt : Int32) : (vaM M pt).2.thr = kVa pt ∧ Rel P F T (vaM M pt).2 ∧ (kVa pt = 0 → (vaM M pt).1 = ltM (T.C (0 * 13 + 0)) T.d pt) := by
  have R2 := R.1
  obtain ⟨⟨a1, a2, a3, hw, hh⟩, hI, hJ, hU, hO, hP, hC, hZ, hF⟩ := R2
  unfold vaM kVa
  by_cases h : pt = 0 ∨ pt = 1
  · rw [if_pos ((pa_ok pt).mpr h), if_pos h]
    refine ⟨rfl, R, fun _ => ?_⟩
    rw [lt_fr hF.2.1 hF.2.2, ← a3, show M.ta 480 = T.C (0 * 13 + 0) from hC 0 (Nat.zero_le _) 12 (Or.inr rfl)]
  · rw [if_neg (fun z => h ((pa_ok pt).mp z)), if_neg h]
    exact ⟨rfl, R, fun z => (by cases z)⟩
theorem o_share (R : Rel P F T M) (x pt : Int32) : (shM M x pt).2.thr = kSh T.w x pt ∧ Rel P F T (shM M x pt).2 ∧ (kSh T.w x pt = 0 → (shM M x pt).1 = ltM (T.start (nI ((idx T.w x).getD 0))) T.d pt) := by
  have R2 := R.1
  obtain ⟨⟨a1, a2, a3, hw, hh⟩, hI, hJ, hU, hO, hP, hC, hZ, hF⟩ := R2
  unfold shM kSh
  rw [a1]
  cases h1 : idx T.w x with
  | none => exact ⟨rfl, R, fun z => (by cases z)⟩
  | some q =>
    simp only
    by_cases h : pt = 0 ∨ pt = 1
    · rw [if_pos ((pa_ok pt).mpr h), if_pos h]
      refine ⟨rfl, R, fun _ => ?_⟩
      have := (idx_some h1).1
      rw [lt_fr hF.2.1 hF.2.2, ← a3, Option.getD_some, st_am R.1 (by omega)]
    · rw [if_neg (fun z => h ((pa_ok pt).mp z)), if_neg h]
      exact ⟨rfl, R, fun z => (by cases z)⟩
theorem sg_1 (K : Nat → Int32) (r j : Nat) (a : Int64) : (sgM K r j).toInt64 * a = if K r = 1 ∨ j = 1 then -a else a := by
  unfold sgM
  split
  · show (-1 : Int64) * a = -a
    exact (Int64.neg_eq_neg_one_mul a).symm
  · show (1 : Int64) * a = a
    exact Int64.one_mul a
theorem du_eq (R : Rel P F T M) {r : Nat} (hr : r < P.rows) : duL P.K P.L T r 0 (liM P.K P.rin r) 0 = duR M r := by
  have R0 := R
  obtain ⟨Rt0, Rr0, ⟨⟨c1, c2, c3⟩, ⟨c4, c5, c6⟩, ⟨c7, c8, c9, c10⟩, c11, ⟨c12, c13⟩, c14⟩, Rg0⟩ := R
  unfold liM duR
  by_cases h1 : r < P.rin
  · have hl : lsum P.K r + lnM P.K r ≤ T.h := by rw [Rr0.1]; exact lsum_mono P.K h1
    have e0 : ∀ j, nI T.w + P.L r + nI j = nI (T.w + lsum P.K r + j) := fun j => by rw [c14 r h1, nI_add, nI_add]
    have e1 : ∀ q, q < T.w + T.h → T.num 0 (nI q) = prR M q := fun q hq => by rw [pr_nu, nu_eq Rt0 (Nat.zero_le _) hq, vr_0]
    rw [if_pos h1, Rr0.2.1 r (by omega), if_pos h1]
    simp only
    rw [c7]
    unfold lnM at hl ⊢
    rcases c11 r hr with h2 | h2 | h2
    · have n1 : ¬ P.K r = 1 := by rw [h2]; decide
      have n2 : ¬ P.K r = 2 := by rw [h2]; decide
      rw [if_neg n2] at hl ⊢
      rw [if_neg n1, if_pos h2]
      show 0 + (sgM P.K r 0).toInt64 * T.num 0 (nI T.w + P.L r + nI 0) = _
      rw [e0, e1 _ (by omega), sg_1, if_neg (by intro z; rcases z with z | z; exact n1 z; omega), Int64.zero_add]
      rfl
    · have n2 : ¬ P.K r = 2 := by rw [h2]; decide
      rw [if_neg n2] at hl ⊢
      rw [if_pos h2]
      show 0 + (sgM P.K r 0).toInt64 * T.num 0 (nI T.w + P.L r + nI 0) = _
      rw [e0, e1 _ (by omega), sg_1, if_pos (Or.inl h2), Int64.zero_add]
      rfl
    · have n1 : ¬ P.K r = 1 := by rw [h2]; decide
      have n0 : ¬ P.K r = 0 := by rw [h2]; decide
      rw [if_pos h2] at hl ⊢
      rw [if_neg n1, if_neg n0]
      show 0 + (sgM P.K r 0).toInt64 * T.num 0 (nI T.w + P.L r + nI 0) + (sgM P.K r 1).toInt64 * T.num 0 (nI T.w + P.L r + nI 1) = _
      rw [e0, e0, e1 _ (by omega), e1 _ (by omega), sg_1, sg_1, if_neg (by intro z; rcases z with z | z; exact n1 z; omega), if_pos (Or.inr rfl), Int64.zero_add, ← Int64.sub_eq_add_neg]
      rfl
  · rw [if_neg h1, (li_none R0 (by omega)).mpr h1]
    rfl
theorem fo_eq (R : Rel P F T M) {r i g : Nat} (hr : r < P.rows) (hi : lvM T 1 T.h none = some i) (hg : g = vr T i) : foL P.K P.L T (lvM T 1 T.h none) r 0 (liM P.K P.rin r) 0 = foR M g r := by
  have R0 := R
  obtain ⟨Rt0, Rr0, ⟨⟨c1, c2, c3⟩, ⟨c4, c5, c6⟩, ⟨c7, c8, c9, c10⟩, c11, ⟨c12, c13⟩, c14⟩, Rg0⟩ := R
  have R3 := Rt0
  obtain ⟨⟨a1, a2, a3, hw, hh⟩, hI, hJ, hU, hO, hP, hC, hZ, hF⟩ := R3
  obtain ⟨i1, i2⟩ := lvM_lt hi
  rw [hi]
  unfold liM foR
  by_cases h1 : r < P.rin
  · have hl : lsum P.K r + lnM P.K r ≤ T.h := by rw [Rr0.1]; exact lsum_mono P.K h1
    have e0 : ∀ j, nI T.w + P.L r + nI j = nI (T.w + lsum P.K r + j) := fun j => by rw [c14 r h1, nI_add, nI_add]
    have e1 : ∀ q, q < T.w + T.h → tmM T (some i) (nI q) = weR M g q := fun q hq => by
      show (if T.I i = nI q then T.d else -(T.num i (nI q))) = _
      obtain ⟨j1, j2, j3⟩ := hI i i1 i2
      rw [j2, nu_eq Rt0 i2 hq]
      by_cases hz : vr T i = q
      · rw [if_pos (by rw [hz])]
        unfold weR
        rw [if_pos (by omega), a3]
      · rw [if_neg (fun z => hz ((nI_eq (by omega) (by omega)).mp z)), we_nu _ _ (by omega), hg]
    rw [if_pos h1, Rr0.2.1 r (by omega), if_pos h1]
    simp only
    rw [c7]
    unfold lnM at hl ⊢
    rcases c11 r hr with h2 | h2 | h2
    · have n1 : ¬ P.K r = 1 := by rw [h2]; decide
      have n2 : ¬ P.K r = 2 := by rw [h2]; decide
      rw [if_neg n2] at hl ⊢
      rw [if_neg n1, if_pos h2]
      show 0 + (sgM P.K r 0).toInt64 * tmM T (some i) (nI T.w + P.L r + nI 0) = _
      rw [e0, e1 _ (by omega), sg_1, if_neg (by intro z; rcases z with z | z; exact n1 z; omega), Int64.zero_add]
      rfl
    · have n2 : ¬ P.K r = 2 := by rw [h2]; decide
      rw [if_neg n2] at hl ⊢
      rw [if_pos h2]
      show 0 + (sgM P.K r 0).toInt64 * tmM T (some i) (nI T.w + P.L r + nI 0) = _
      rw [e0, e1 _ (by omega), sg_1, if_pos (Or.inl h2), Int64.zero_add]
      rfl
    · have n1 : ¬ P.K r = 1 := by rw [h2]; decide
      have n0 : ¬ P.K r = 0 := by rw [h2]; decide
      rw [if_pos h2] at hl ⊢
      rw [if_neg n1, if_neg n0]
      show 0 + (sgM P.K r 0).toInt64 * tmM T (some i) (nI T.w + P.L r + nI 0) + (sgM P.K r 1).toInt64 * tmM T (some i) (nI T.w + P.L r + nI 1) = _
      rw [e0, e0, e1 _ (by omega), e1 _ (by omega), sg_1, sg_1, if_neg (by intro z; rcases z with z | z; exact n1 z; omega), if_pos (Or.inr rfl), Int64.zero_add, ← Int64.sub_eq_add_neg]
      rfl
  · rw [if_neg h1, (li_none R0 (by omega)).mpr h1]
    rfl
theorem o_dual (R : Rel P F T M) (x pt : Int32) : (duM M x pt).2.thr = kSh P.rows x pt ∧ Rel P F T (duM M x pt).2 ∧ (kSh P.rows x pt = 0 → (duM M x pt).1 = ltM (duL P.K P.L T ((idx P.rows x).getD 0) 0 (liM P.K P.rin ((idx P.rows x).getD 0)) 0) T.d pt) := by
  have R2 := R.1
  obtain ⟨⟨a1, a2, a3, hw, hh⟩, hI, hJ, hU, hO, hP, hC, hZ, hF⟩ := R2
  unfold duM kSh
  rw [R.2.2.1.2.1.1]
  cases h1 : idx P.rows x with
  | none => exact ⟨rfl, R, fun z => (by cases z)⟩
  | some r =>
    simp only
    by_cases h : pt = 0 ∨ pt = 1
    · rw [if_pos ((pa_ok pt).mpr h), if_pos h]
      refine ⟨rfl, R, fun _ => ?_⟩
      rw [lt_fr hF.2.1 hF.2.2, ← a3, Option.getD_some, du_eq R (idx_some h1).1]
    · rw [if_neg (fun z => h ((pa_ok pt).mp z)), if_neg h]
      exact ⟨rfl, R, fun z => (by cases z)⟩
theorem o_factorOf (R : Rel P F T M) (x pt : Int32) : (foM M x pt).2.thr = kFo P x pt ∧ Rel P F T (foM M x pt).2 ∧ (kFo P x pt = 0 → (foM M x pt).1 = ltM (foL P.K P.L T (lvM T 1 T.h none) ((idx P.rows x).getD 0) 0 (liM P.K P.rin ((idx P.rows x).getD 0)) 0) T.d pt) := by
  have R2 := R.1
  obtain ⟨⟨a1, a2, a3, hw, hh⟩, hI, hJ, hU, hO, hP, hC, hZ, hF⟩ := R2
  unfold foM kFo
  rw [R.2.2.1.2.1.1]
  cases h1 : idx P.rows x with
  | none => exact ⟨rfl, R, fun z => (by cases z)⟩
  | some r =>
    simp only
    by_cases hl : P.lat = 1
    · obtain ⟨i, h2, h3⟩ := R.2.2.2.1 hl
      rw [if_pos hl]
      simp only [h3]
      by_cases h : pt = 0 ∨ pt = 1
      · rw [if_pos ((pa_ok pt).mpr h), if_pos h]
        refine ⟨rfl, R, fun _ => ?_⟩
        rw [lt_fr hF.2.1 hF.2.2, ← a3, Option.getD_some, fo_eq R (idx_some h1).1 h2 rfl]
      · rw [if_neg (fun z => h ((pa_ok pt).mp z)), if_neg h]
        exact ⟨rfl, R, fun z => (by cases z)⟩
    · rw [if_neg hl]
      simp only [R.2.2.2.2.1 hl]
      exact ⟨rfl, R, fun z => (by cases z)⟩
theorem ck_s (R : Rel P F T M) (r : Nat) (y : Int64) : ∀ (n j : Nat) (acc : Int64), j + n ≤ T.w → sumS T F (r * 12 + 0) j n acc - y = ckS M r j n (acc - y) := by
  obtain ⟨Rt0, Rr0, ⟨⟨c1, c2, c3⟩, ⟨c4, c5, c6⟩, ⟨c7, c8, c9, c10⟩, c11, ⟨c12, c13⟩, c14⟩, Rg0⟩ := R
  intro n
  induction n with
  | zero => intro j acc _; rfl
  | succ n ih =>
    intro j acc hj
    rw [sumS, ckS, ih _ _ (by omega), st_am Rt0 (by omega), c10, show 12 * r + j = r * 12 + 0 + j by omega]
    congr 1
    grind
theorem ck_b (R : Rel P F T M) (r : Nat) : ikM P.K P.B F T r = ckB M r := by
  have e : ovM P.B F T r = ckO M r := by
    unfold ovM ckO
    rw [ck_s R r _ T.w 0 0 (by omega), R.1.1.1, R.1.1.2.2.1, R.2.2.1.2.2.1.2.2.1]
    congr 1
    grind
  unfold ikM ckB
  rw [e, R.2.2.1.2.2.1.1]
theorem o_check (R : Rel P F T M) : ckL P.K P.B F T 0 P.rows = ckR M 0 M.ro := by
  rw [R.2.2.1.2.1.1]
  have h : ∀ n r, ckL P.K P.B F T r n = ckR M r n := by
    intro n
    induction n with
    | zero => intro r; rfl
    | succ n ih =>
      intro r
      rw [ckL, ckR, ck_b R, ih]
  exact h _ _
theorem o_count (R : Rel P F T M) (x : Int32) : ctP P T x = ctR M x := by
  obtain ⟨Rt0, Rr0, ⟨⟨c1, c2, c3⟩, ⟨c4, c5, c6⟩, ⟨c7, c8, c9, c10⟩, c11, ⟨c12, c13⟩, c14⟩, Rg0⟩ := R
  obtain ⟨⟨a1, a2, a3, hw, hh⟩, -⟩ := Rt0
  unfold ctP ctR
  rw [a1, a2, a3, c1, c4, c8]
  have e4 : (nI 4 + P.wk).toInt = 4 + P.wk.toInt := by
    rw [Int32.toInt_add, nI_toInt (by omega)]
    exact Int.bmod_eq_of_le_mul_two (by omega) (by omega)
  have e5 : (5 : Int64) = (5 : Int32).toInt64 := by decide
  have k5 : (5 : Int32).toInt = 5 := by decide
  have ein : isInB x.toInt64 5 ((nI 4 + P.wk).toInt64) = true ↔ 5 ≤ x.toInt ∧ x.toInt ≤ 4 + P.wk.toInt := by
    rw [in_of, e5, i64_lt, i64_lt, Int32.lt_iff_toInt_lt, Int32.lt_iff_toInt_lt, e4, k5]
    omega
  have hx0 : ∀ n : Nat, n < 5 → x = nI n → ¬ isInB x.toInt64 5 ((nI 4 + P.wk).toInt64) = true := by
    intro n hn hx
    rw [ein, hx, nI_toInt (by omega)]
    omega
  by_cases h0 : x = 0
  · rw [if_pos h0, if_neg (hx0 0 (by omega) h0), if_pos h0]
  rw [if_neg h0]
  by_cases h1 : x = 1
  · rw [if_pos h1, if_neg (hx0 1 (by omega) h1), if_neg h0, if_pos h1]
  rw [if_neg h1]
  by_cases h2 : x = 2
  · rw [if_pos h2, if_neg (hx0 2 (by omega) h2), if_neg h0, if_neg h1, if_pos h2]
  rw [if_neg h2]
  by_cases h3 : x = 3
  · rw [if_pos h3, if_neg (hx0 3 (by omega) h3), if_neg h0, if_neg h1, if_neg h2, if_pos h3]
  rw [if_neg h3]
  by_cases h4 : x = 4
  · rw [if_pos h4, if_neg (hx0 4 (by omega) h4), if_neg h0, if_neg h1, if_neg h2, if_neg h3, if_pos h4]
  rw [if_neg h4, if_neg h0, if_neg h1, if_neg h2, if_neg h3, if_neg h4]
  by_cases h5 : x < 5
  · have h5b := h5
    rw [Int32.lt_iff_toInt_lt, k5] at h5b
    rw [if_pos h5, if_neg (fun z => by rw [ein] at z; omega)]
  · rw [if_neg h5]
    rw [Int32.lt_iff_toInt_lt, k5] at h5
    have es : (x - 5).toInt = x.toInt - 5 := by
      have hx := x.toInt_lt
      rw [Int32.toInt_sub, k5]
      exact Int.bmod_eq_of_le_mul_two (by omega) (by omega)
    have el : x - 5 < P.wk ↔ x.toInt - 5 < P.wk.toInt := by rw [Int32.lt_iff_toInt_lt, es]
    by_cases h6 : x - 5 < P.wk
    · rw [if_pos h6, if_pos (ein.mpr ⟨by omega, by have := el.mp h6; omega⟩)]
    · rw [if_neg h6, if_neg (fun z => h6 (el.mpr (by have := ein.mp z; omega)))]
end
theorem noL_at : ∀ (n k : Nat) (f : Nat → Option Nat) (j : Nat), noL k n f j = if k ≤ j ∧ j < k + n then none else f j := by
  intro n
  induction n with
  | zero => intro k f j; rw [if_neg (by omega)]; rfl
  | succ n ih =>
    intro k f j
    rw [noL, ih]
    by_cases h1 : k + 1 ≤ j ∧ j < k + 1 + n
    · rw [if_pos h1, if_pos (by omega)]
    · rw [if_neg h1]
      show (if j = k then none else f j) = _
      by_cases h2 : j = k
      · rw [if_pos h2, if_pos (by omega)]
      · rw [if_neg h2, if_neg (by omega)]
theorem wk_ok (x : Int32) : wkM x = wkP x ∧ 1 ≤ (wkP x).toInt ∧ (wkP x).toInt ≤ 60 := by
  have k1 : (1 : Int32).toInt = 1 := by decide
  have k6 : (60 : Int32).toInt = 60 := by decide
  unfold wkM wkP
  by_cases h1 : x < 60
  · have h2 : ¬ 60 < x := by
      rw [Int32.lt_iff_toInt_lt] at h1 ⊢
      omega
    rw [if_pos h1]
    by_cases h3 : 1 < x
    · have h4 : ¬ x < 1 := by
        rw [Int32.lt_iff_toInt_lt] at h3 ⊢
        omega
      rw [if_pos h3, if_neg h4, if_neg h2]
      rw [Int32.lt_iff_toInt_lt] at h1 h3
      exact ⟨rfl, by omega, by omega⟩
    · rw [if_neg h3]
      refine ⟨?_, by omega, by omega⟩
      by_cases h4 : x < 1
      · rw [if_pos h4]
      · rw [if_neg h4, if_neg h2]
        rw [Int32.lt_iff_toInt_lt] at h3 h4
        exact Int32.toInt_inj.mp (by omega)
  · rw [if_neg h1, if_pos (show (1 : Int32) < 60 by decide)]
    have h4 : ¬ x < 1 := by
      rw [Int32.lt_iff_toInt_lt] at h1 ⊢
      omega
    refine ⟨?_, by omega, by omega⟩
    rw [if_neg h4]
    by_cases h2 : 60 < x
    · rw [if_pos h2]
    · rw [if_neg h2]
      rw [Int32.lt_iff_toInt_lt] at h1 h2
      exact Int32.toInt_inj.mp (by omega)
theorem o_init (x : Int32) : Rel (P0 x) (fun _ => 0) T0 (M0 x) := by
  obtain ⟨w1, w2, w3⟩ := wk_ok x
  have hpl : ∀ v, (M0 x).pl v = if 0 ≤ v ∧ v < 0 + 37 then none else some 0 := fun v => noL_at 37 0 _ v
  have hli : ∀ v, (M0 x).li v = if 0 ≤ v ∧ v < 0 + 12 then none else some 0 := fun v => noL_at 12 0 _ v
  refine ⟨⟨⟨rfl, rfl, rfl, Nat.zero_le _, Nat.zero_le _⟩, ?_, ?_, ?_, ?_, ⟨?_, ?_, fun k => (by show 0 < 36; omega)⟩, fun i hi q hq => rfl, fun v q _ _ _ => rfl, ⟨fun i hi k hk => f9_0, (by decide), (by decide)⟩⟩, ⟨rfl, fun r hr => ?_, fun r v hv => ?_⟩, ⟨⟨w1, w2, w3⟩, ⟨rfl, Nat.zero_le _, Nat.zero_le _⟩, ⟨rfl, rfl, rfl, fun i => rfl⟩, fun r hr => (by cases hr), ⟨rfl, rfl⟩, fun r hr => (by cases hr)⟩, ⟨fun z => absurd z (by decide : ¬ (-1 : Int32) = 1), fun _ => rfl, fun _ => ⟨rfl, (by decide : ¬ (-1 : Int32) = 1)⟩⟩⟩
  · intro i h1 h2
    have h2 : i ≤ 0 := h2
    omega
  · intro v h1
    have h1 : v < 0 := h1
    omega
  · intro i j h1 h2
    have h2 : i ≤ 0 := h2
    omega
  · intro k hk
    have hk : k < 0 := hk
    omega
  · intro v k hv h
    rw [hpl, if_pos (by omega)] at h
    cases h
  · intro v k h
    rw [hpl] at h
    split at h
    · cases h
    · have := Option.some.inj h; omega
  · rw [hli, if_pos (by omega)]
    show none = if r < 0 then _ else none
    rw [if_neg (by omega)]
  · rw [hli] at hv
    split at hv
    · cases hv
    · have := Option.some.inj hv; omega
