/-! a row comes into the table -/
theorem sg_cm (M : MS) (r j : Nat) (x : Int64) : (sgM M.ki r j).toInt64 * x = cmX (tuB M r j) x := by
  unfold sgM cmX tuB
  by_cases h1 : M.ki r = 1 ∨ j = 1
  · rw [if_pos h1]
    have h2 : (decide (M.ki r = 1) || decide (j = 1)) = true := by
      rw [Bool.or_eq_true, decide_eq_true_iff, decide_eq_true_iff]; exact h1
    rw [h2, if_pos rfl]
    exact (Int64.neg_eq_neg_one_mul x).symm
  · rw [if_neg h1]
    have h2 : ¬ (decide (M.ki r = 1) || decide (j = 1)) = true := by
      rw [Bool.or_eq_true, decide_eq_true_iff, decide_eq_true_iff]; exact h1
    rw [if_neg h2]
    exact Int64.one_mul x
theorem cmX_fits {tu : Bool} {x : Int64} (h : fits9 x = true) : fits9 (cmX tu x) = true := by
  unfold cmX
  split
  · exact f9_neg h
  · exact h
theorem suL_sh (M : MS) (r q : Nat) (x : Int64) : ∀ (n c : Nat) (acc : Int64), suL M r q c n (acc + x) = suL M r q c n acc + x := by
  intro n
  induction n with
  | zero => intro c acc; rfl
  | succ n ih =>
    intro c acc
    rw [suL, suL, ← ih]
    congr 1
    grind
section
variable {T : TS} {M : MS}
theorem tc_eq (R : Rt T M) {j y : Nat} (f : Int64) (G : Nat → Int64) (hj : j < T.w) (hy : y < T.w ∨ y = 12) : tcM T (nI j) f G (plc y) = G (plc y) + f * ptR M j y := by
  have R2 := R
  obtain ⟨⟨a1, a2, a3, hw, hh⟩, hI, hJ, hU, hO, hP, hC, hZ, hF⟩ := R2
  unfold tcM ptR
  cases hp : M.pl j with
  | none =>
    obtain ⟨i, h1, h2, h3, h4⟩ := fi_some R (v := j) (by omega) hp
    rw [fo_none R (by omega) hp, h1]
    show tcL T.C i f 0 (T.w + 1) G (plc y) = G (plc y) + f * M.ta (13 * j + y)
    rw [tcL_at, if_pos (by unfold plc; split <;> omega), ← hC i h3 y hy, h4]
  | some k =>
    obtain ⟨h1, h2⟩ := fo_some R (by omega) hp
    rw [h1]
    show vp_updL G (k + 1) (G (k + 1) + f * T.d) (plc y) = G (plc y) + f * (if k = y then M.dn else 0)
    by_cases h3 : k = y
    · have h4 : plc y = k + 1 := by unfold plc; rw [if_neg (by omega)]; omega
      rw [h4, pk_uLs, if_pos h3, a3]
    · have h4 : plc y ≠ k + 1 := by unfold plc; split <;> omega
      rw [pk_uLn h4, if_neg h3, Int64.mul_zero, Int64.add_zero]
theorem te_eq (R : Rt T M) {F : Nat → Int32} {r y : Nat} (hy : y < T.w ∨ y = 12) (hfa : ∀ i, M.fa i = (F i).toInt64) : ∀ (n j : Nat) (G : Nat → Int64), j + n ≤ T.w → teL T F (r * 12 + 0) j n G (plc y) = suL M r y j n (G (plc y)) := by
  intro n
  induction n with
  | zero => intro j G _; rfl
  | succ n ih =>
    intro j G hj
    rw [teL, suL, ih _ _ (by omega), tc_eq R _ _ (by omega) hy, hfa, show 12 * r + j = r * 12 + 0 + j by omega]
theorem su_eq (R : Rt T M) {F : Nat → Int32} {B : Nat → Int64} {r y : Nat} (hy : y < T.w ∨ y = 12) (hfa : ∀ i, M.fa i = (F i).toInt64) (hri : M.ri = B) : teM T F (r * 12 + 0) (B r) (plc y) = suM M r y := by
  have R2 := R
  obtain ⟨⟨a1, a2, a3, hw, hh⟩, hI, hJ, hU, hO, hP, hC, hZ, hF⟩ := R2
  have e0 : fillL 0 0 13 T.G (plc y) = 0 := by rw [fillL_at, if_pos (by unfold plc; split <;> omega)]
  have e1 := te_eq R (F := F) (r := r) hy hfa T.w 0 (fillL 0 0 13 T.G) (by omega)
  rw [e0] at e1
  unfold teM teE suM
  by_cases h1 : y = 12
  · subst h1
    have e2 : plc 12 = 0 := rfl
    rw [e2] at e1 ⊢
    rw [pk_uLs, e1, if_pos rfl, a1, a3, hri]
    have e3 := suL_sh M r 12 (-T.d * B r) T.w 0 0
    rw [Int64.zero_add] at e3
    rw [e3]
    grind
  · have e2 : plc y ≠ 0 := by unfold plc; rw [if_neg h1]; omega
    rw [pk_uLn e2, e1, if_neg h1, a1]
theorem cmF_b (M : MS) (r : Nat) : ∀ (n k : Nat) (b : Bool), cmF M r k n b = true ↔ b = true ∧ ∀ j, k ≤ j → j < k + n → fits9 (suM M r (atK M.co j)) = true := by
  intro n
  induction n with
  | zero => intro k b; exact ⟨fun h => ⟨h, fun y h1 h2 => by omega⟩, fun h => h.1⟩
  | succ n ih =>
    intro k b
    rw [cmF, ih, Bool.and_eq_true, gr_fits]
    constructor
    · intro ⟨⟨h1, h2⟩, h3⟩
      refine ⟨h1, fun y h4 h5 => ?_⟩
      by_cases h6 : y = k
      · rw [h6]; exact h2
      · exact h3 y (by omega) (by omega)
    · intro ⟨h1, h2⟩
      exact ⟨⟨h1, h2 k (by omega) (by omega)⟩, fun y h4 h5 => h2 y (by omega) (by omega)⟩
theorem cmF_eq (R : Rt T M) {F : Nat → Int32} {B : Nat → Int64} {r : Nat} (hfa : ∀ i, M.fa i = (F i).toInt64) (hri : M.ri = B) : allF (teM T F (r * 12 + 0) (B r)) 0 (T.w + 1) = cmF M r 0 (M.co + 1) true := by
  have R2 := R
  obtain ⟨⟨a1, a2, a3, hw, hh⟩, hI, hJ, hU, hO, hP, hC, hZ, hF⟩ := R2
  rw [Bool.eq_iff_iff, allF_iff, cmF_b]
  constructor
  · intro h
    refine ⟨rfl, fun j h1 h2 => ?_⟩
    have hy : atK M.co j < T.w ∨ atK M.co j = 12 := by unfold atK; split <;> omega
    rw [← su_eq R hy hfa hri]
    exact h _ (by omega) (by unfold plc; split <;> omega)
  · intro ⟨_, h⟩ j h1 h2
    by_cases h3 : j = 0
    · have h4 := h M.co (by omega) (by omega)
      rw [atK, if_pos rfl, ← su_eq R (Or.inr rfl) hfa hri] at h4
      rw [h3]
      exact h4
    · have h4 := h (j - 1) (by omega) (by omega)
      rw [atK, if_neg (by omega), ← su_eq R (Or.inl (by omega)) hfa hri, plc, if_neg (by omega), show j - 1 + 1 = j by omega] at h4
      exact h4
theorem suL_ag {t : Nat → Int64} (r q : Nat) (hq : q < 13) (ht : ∀ c y, c < M.co → y < 13 → t (13 * c + y) = M.ta (13 * c + y)) : ∀ (n c : Nat) (acc : Int64), c + n ≤ M.co → suL (mTa M t) r q c n acc = suL M r q c n acc := by
  intro n
  induction n with
  | zero => intro c acc _; rfl
  | succ n ih =>
    intro c acc hc
    have e1 : ptR (mTa M t) c q = ptR M c q := by
      unfold ptR
      show (match M.pl c with | none => t (13 * c + q) | some k => if k = q then M.dn else 0) = _
      cases M.pl c with
      | none => exact ht c q (by omega) hq
      | some k => rfl
    rw [suL, suL, ih _ _ (by omega), e1]
    rfl
theorem su_ag {t : Nat → Int64} (r q : Nat) (hq : q < 13) (ht : ∀ c y, c < M.co → y < 13 → t (13 * c + y) = M.ta (13 * c + y)) : suM (mTa M t) r q = suM M r q := by
  unfold suM
  exact suL_ag r q hq ht M.co 0 _ (by omega)
theorem atK_lt {co k : Nat} (hco : co ≤ 12) (hk : k ≤ co) : atK co k < 13 := by unfold atK; split <;> omega
theorem cmI_at (r v : Nat) (tu : Bool) (hco : M.co ≤ 12) (hv : M.co ≤ v) : ∀ (n k : Nat) (t : Nat → Int64), k + n ≤ M.co + 1 → (∀ c y, c < M.co → y < 13 → t (13 * c + y) = M.ta (13 * c + y)) →
    (∀ x y, y < 13 → (x ≠ v ∨ (M.co ≤ y ∧ y ≠ 12)) → cmI M r v tu k n t (13 * x + y) = t (13 * x + y)) ∧ (∀ j, k ≤ j → j < k + n → cmI M r v tu k n t (13 * v + atK M.co j) = cmX tu (suM M r (atK M.co j))) ∧ (∀ j, j < k → j ≤ M.co → cmI M r v tu k n t (13 * v + atK M.co j) = t (13 * v + atK M.co j)) := by
  intro n
  induction n with
  | zero => intro k t _ _; exact ⟨fun _ _ _ _ => rfl, fun j h1 h2 => by omega, fun _ _ _ => rfl⟩
  | succ n ih =>
    intro k t hk ht
    have hb : atK M.co k < 13 := atK_lt hco (by omega)
    rw [cmI]
    rw [su_ag r _ hb ht]
    obtain ⟨h1, h2, h3⟩ := ih (k + 1) (vp_updL t (13 * v + atK M.co k) (cmX tu (suM M r (atK M.co k)))) (by omega) (fun c y hc hy => by
      rw [updR_13 _ _ _ _ _ _ hb hy, if_neg (by omega)]; exact ht c y hc hy)
    refine ⟨fun x y hy hx => ?_, fun j h4 h5 => ?_, fun j h4 h5 => ?_⟩
    · rw [h1 x y hy hx, updR_13 _ _ _ _ _ _ hb hy, if_neg (by
        intro z
        have : y < M.co ∨ y = 12 := by
          have h8 := z.2
          unfold atK at h8
          split at h8 <;> omega
        omega)]
    · by_cases h6 : j = k
      · subst h6
        rw [h3 j (by omega) (by omega), updR_13 _ _ _ _ _ _ hb hb, if_pos ⟨rfl, rfl⟩]
      · exact h2 j (by omega) (by omega)
    · have hne : ¬ atK M.co j = atK M.co k := by unfold atK; split <;> split <;> omega
      rw [h3 j (by omega) h5, updR_13 _ _ _ _ _ _ hb (atK_lt hco h5), if_neg (fun z => hne z.2)]
theorem rt_bring (R : Rt T M) {s : Int32} {M2 : MS} (hh2 : T.h < 24) (hG : ∀ k, k ≤ T.w → fits9 (s.toInt64 * T.G k) = true) (b1 : M2.co = M.co) (b2 : M2.ln = M.ln + 1) (b3 : M2.dn = M.dn) (b4 : M2.pl = M.pl) (b5 : M2.ou = M.ou) (hrow : ∀ y, y < T.w ∨ y = 12 → M2.ta (13 * (T.w + T.h) + y) = s.toInt64 * T.G (plc y)) (hoth : ∀ x y, y < 13 → (x ≠ T.w + T.h ∨ (T.w ≤ y ∧ y ≠ 12)) → M2.ta (13 * x + y) = M.ta (13 * x + y)) : Rt (btM T s) M2 := by
  have R2 := R
  obtain ⟨⟨a1, a2, a3, hw, hh⟩, hI, hJ, hU, hO, hP, hC, hZ, hF⟩ := R2
  unfold btM
  rw [if_neg (by omega)]
  have hvr : ∀ i, vr (ts (btL T.G (T.h + 1) s.toInt64 0 (T.w + 1) T.C) (upd T.I (T.h + 1) (nI (T.w + T.h))) T.O T.G T.S T.w (T.h + 1) T.d) i = if i = T.h + 1 then T.w + T.h else vr T i := by
    intro i
    unfold vr
    show (if i = 0 then 36 else (upd T.I (T.h + 1) (nI (T.w + T.h)) i).toInt.toNat) = _
    by_cases h2 : i = T.h + 1
    · subst h2
      rw [if_neg (by omega), if_pos rfl, pk_us, nI_toInt (by omega)]
      omega
    · rw [if_neg h2]
      by_cases h3 : i = 0
      · rw [if_pos h3, if_pos h3]
      · rw [if_neg h3, if_neg h3, pk_un h2]
  have hnn : M.pl (T.w + T.h) = none := by
    cases hp : M.pl (T.w + T.h) with
    | none => rfl
    | some k =>
      obtain ⟨h1, h2⟩ := hP.1 _ k (by omega) hp
      have h3 := (hO k h1).2.1
      omega
  refine ⟨⟨b1.trans a1, by rw [b2, a2]; rfl, b3.trans a3, hw, show T.h + 1 ≤ 24 by omega⟩, ?_, ?_, ?_, ?_, ?_, ?_, ?_, ?_⟩
  · intro i h1 h2
    have h2 : i ≤ T.h + 1 := h2
    rw [hvr, b4]
    show _ < T.w + (T.h + 1) ∧ upd T.I (T.h + 1) (nI (T.w + T.h)) i = _ ∧ _
    by_cases h3 : i = T.h + 1
    · rw [if_pos h3, h3, pk_us]
      exact ⟨by omega, rfl, hnn⟩
    · rw [if_neg h3, pk_un h3]
      obtain ⟨h4, h5⟩ := hI i h1 (by omega)
      exact ⟨by omega, h5⟩
  · intro v h1 h2
    have h1 : v < T.w + (T.h + 1) := h1
    rw [b4] at h2
    by_cases h3 : v = T.w + T.h
    · exact ⟨T.h + 1, by omega, Nat.le_refl _, by rw [hvr, if_pos rfl, h3]⟩
    · obtain ⟨i, h4, h5, h6⟩ := hJ v (by omega) h2
      exact ⟨i, h4, show i ≤ T.h + 1 by omega, by rw [hvr, if_neg (by omega)]; exact h6⟩
  · intro i j h1 h2 h3 h4 h5
    have h2 : i ≤ T.h + 1 := h2
    have h4 : j ≤ T.h + 1 := h4
    rw [hvr, hvr] at h5
    by_cases h6 : i = T.h + 1
    · by_cases h7 : j = T.h + 1
      · omega
      · rw [if_pos h6, if_neg h7] at h5
        have := (hI j h3 (by omega)).1
        omega
    · by_cases h7 : j = T.h + 1
      · rw [if_neg h6, if_pos h7] at h5
        have := (hI i h1 (by omega)).1
        omega
      · rw [if_neg h6, if_neg h7] at h5
        exact hU i j h1 (by omega) h3 (by omega) h5
  · intro k hk
    rw [b5, b4]
    obtain ⟨h1, h2, h3⟩ := hO k hk
    exact ⟨h1, show M.ou k < T.w + (T.h + 1) by omega, h3⟩
  · unfold RtP
    rw [b5, b4]
    exact hP
  · intro i hi y hy
    have hi : i ≤ T.h + 1 := hi
    have hy : y < T.w ∨ y = 12 := hy
    rw [hvr]
    show _ = btL T.G (T.h + 1) s.toInt64 0 (T.w + 1) T.C (i * 13 + plc y)
    rw [btL_at _ _ _ _ _ _ _ _ (by omega) (by unfold plc; split <;> omega)]
    by_cases h3 : i = T.h + 1
    · rw [if_pos h3, if_pos (by unfold plc; split <;> omega)]
      exact hrow y hy
    · rw [if_neg h3, if_neg (by omega), hoth _ _ (by omega) ?_, hC i (by omega) y hy]
      left
      by_cases h0 : i = 0
      · rw [h0, vr_0]; omega
      · have := (hI i (by omega) (by omega)).1
        omega
  · intro v y hv h1 h2
    have h1 : T.w ≤ y := h1
    rw [hoth v y (by omega) (Or.inr ⟨h1, by omega⟩)]
    exact hZ v y hv h1 h2
  · refine ⟨fun i hi y hy => ?_, hF.2⟩
    have hi : i ≤ T.h + 1 := hi
    have hy : y ≤ T.w := hy
    show fits9 (btL T.G (T.h + 1) s.toInt64 0 (T.w + 1) T.C (i * 13 + y)) = true
    rw [btL_at _ _ _ _ _ _ _ _ (by omega) (by omega)]
    by_cases h3 : i = T.h + 1
    · rw [if_pos (by omega)]; exact hG y hy
    · rw [if_neg (by omega)]; exact hF.1 i (by omega) y hy
def mLn (M : MS) (n : Nat) (t : Nat → Int64) : MS := ms M.thr M.wk M.co M.cs M.ro M.ki M.wo M.ri M.fa M.li (M.ln + n) M.hr M.st M.dn M.pl M.ou t M.nx M.ag
theorem cmx_eq (R : Rt T M) {F : Nat → Int32} {B : Nat → Int64} {K L : Nat → Int32} {r : Nat} (hki : M.ki = K) (hfa : ∀ i, M.fa i = (F i).toInt64) (hri : M.ri = B) (hh2 : T.h + lnM K r ≤ 24) : (brM K B L F T r).1 = (cmM M r).1 ∧ Rt (brM K B L F T r).2.1 (cmM M r).2 ∧ ((cmM M r).1 = true → (brM K B L F T r).2.1.h = T.h + lnM K r ∧ (brM K B L F T r).2.2 = upd L r (nI T.h)) := by
  have R2 := R
  obtain ⟨⟨a1, a2, a3, hw, hh⟩, hI, hJ, hU, hO, hP, hC, hZ, hF⟩ := R2
  subst hki
  have e1 := cmF_eq R (F := F) (r := r) hfa hri
  have R1 : Rt (teT T F (r * 12 + 0) (B r)) M := R
  unfold brM cmM
  show ((if allF (teM T F (r * 12 + 0) (B r)) 0 (T.w + 1) = true then _ else _) : Bool × TS × (Nat → Int32)).1 = _ ∧ _
  by_cases hc : cmF M r 0 (M.co + 1) true = true
  · have hc2 : allF (teT T F (r * 12 + 0) (B r)).G 0 (T.w + 1) = true := e1.trans hc
    have hc3 : allF (teM T F (r * 12 + 0) (B r)) 0 (T.w + 1) = true := hc2
    rw [if_pos hc, if_pos hc3, if_pos hc2]
    have hfit := (allF_iff _ _ _).mp hc2
    have hG : ∀ j k, k ≤ T.w → fits9 ((sgM M.ki r j).toInt64 * (teT T F (r * 12 + 0) (B r)).G k) = true := by
      intro j k hk
      rw [sg_cm]
      exact cmX_fits (hfit k (by omega) (by omega))
    have hat : ∀ y, y < T.w ∨ y = 12 → ∃ j, j ≤ M.co ∧ y = atK M.co j := by
      intro y hy
      by_cases h1 : y = 12
      · exact ⟨M.co, by omega, by rw [atK, if_pos rfl]; exact h1⟩
      · exact ⟨y, by omega, by rw [atK, if_neg (by omega)]⟩
    refine ⟨rfl, ?_, fun _ => ?_⟩
    · show Rt (brL M.ki r 0 (lnM M.ki r) (teT T F (r * 12 + 0) (B r))) _
      obtain ⟨p1, p2, -⟩ := cmI_at (M := M) r (M.co + M.ln + 0) (tuB M r 0) (by omega) (by omega) (M.co + 1) 0 M.ta (by omega) (fun _ _ _ _ => rfl)
      have hrow1 : ∀ y, y < T.w ∨ y = 12 → cmI M r (M.co + M.ln + 0) (tuB M r 0) 0 (M.co + 1) M.ta (13 * (T.w + T.h) + y) = (sgM M.ki r 0).toInt64 * (teT T F (r * 12 + 0) (B r)).G (plc y) := by
        intro y hy
        obtain ⟨j, h1, h2⟩ := hat y hy
        rw [sg_cm]
        show _ = cmX _ (teM T F (r * 12 + 0) (B r) (plc y))
        rw [su_eq R hy hfa hri, h2, ← p2 j (by omega) (by omega), a1, a2, Nat.add_zero]
      by_cases h2 : M.ki r = 2
      · rw [lnM, if_pos h2]
        have Ra : Rt (btM (teT T F (r * 12 + 0) (B r)) (sgM M.ki r 0)) (mLn M 1 (cmI M r (M.co + M.ln + 0) (tuB M r 0) 0 (M.co + 1) M.ta)) := by
          rw [lnM, if_pos h2] at hh2
          refine rt_bring R1 (show T.h < 24 by omega) (hG 0) rfl rfl rfl rfl rfl hrow1 (fun x y hy hx => ?_)
          refine p1 x y hy ?_
          have hx : x ≠ T.w + T.h ∨ (T.w ≤ y ∧ y ≠ 12) := hx
          omega
        have eT : btM (teT T F (r * 12 + 0) (B r)) (sgM M.ki r 0) = ts (btL (teT T F (r * 12 + 0) (B r)).G (T.h + 1) (sgM M.ki r 0).toInt64 0 (T.w + 1) T.C) (upd T.I (T.h + 1) (nI (T.w + T.h))) T.O (teT T F (r * 12 + 0) (B r)).G T.S T.w (T.h + 1) T.d := by
          rw [lnM, if_pos h2] at hh2
          unfold btM
          rw [if_neg (show ¬ 24 ≤ (teT T F (r * 12 + 0) (B r)).h from fun z => by have z : 24 ≤ T.h := z; omega)]
          rfl
        rw [lnM, if_pos h2] at hh2
        show Rt (btM (btM (teT T F (r * 12 + 0) (B r)) (sgM M.ki r 0)) (sgM M.ki r 1)) _
        obtain ⟨q1, q2, -⟩ := cmI_at (M := M) r (M.co + M.ln + 1) (tuB M r 1) (by omega) (by omega) (M.co + 1) 0 (cmI M r (M.co + M.ln + 0) (tuB M r 0) 0 (M.co + 1) M.ta) (by omega) (fun c y hc hy => p1 c y hy (by omega))
        rw [eT] at Ra ⊢
        refine rt_bring Ra (show T.h + 1 < 24 by omega) (hG 1) rfl rfl rfl rfl rfl (fun y hy => ?_) (fun x y hy hx => ?_)
        · have hy : y < T.w ∨ y = 12 := hy
          obtain ⟨j, h1, h3⟩ := hat y hy
          rw [sg_cm]
          show cmI M r (M.co + M.ln + 1) (tuB M r 1) 0 (M.co + 1) _ (13 * (T.w + (T.h + 1)) + y) = cmX _ (teM T F (r * 12 + 0) (B r) (plc y))
          rw [su_eq R hy hfa hri, h3, ← q2 j (by omega) (by omega), a1, a2]
          rfl
        · have hx : x ≠ T.w + (T.h + 1) ∨ (T.w ≤ y ∧ y ≠ 12) := hx
          exact q1 x y hy (by omega)
      · rw [lnM, if_neg h2] at hh2 ⊢
        refine rt_bring R1 (show T.h < 24 by omega) (hG 0) rfl rfl rfl rfl rfl hrow1 (fun x y hy hx => ?_)
        refine p1 x y hy ?_
        have hx : x ≠ T.w + T.h ∨ (T.w ≤ y ∧ y ≠ 12) := hx
        omega
    · refine ⟨?_, rfl⟩
      show (brL M.ki r 0 (lnM M.ki r) (teT T F (r * 12 + 0) (B r))).h = T.h + lnM M.ki r
      by_cases h2 : M.ki r = 2
      · rw [lnM, if_pos h2] at hh2 ⊢
        have h3 : (btM (teT T F (r * 12 + 0) (B r)) (sgM M.ki r 0)).h = T.h + 1 := by
          unfold btM
          rw [if_neg (show ¬ 24 ≤ (teT T F (r * 12 + 0) (B r)).h from fun z => by have z : 24 ≤ T.h := z; omega)]
          rfl
        show (btM (btM (teT T F (r * 12 + 0) (B r)) (sgM M.ki r 0)) (sgM M.ki r 1)).h = _
        generalize btM (teT T F (r * 12 + 0) (B r)) (sgM M.ki r 0) = X at h3
        unfold btM
        rw [if_neg (by omega)]
        show X.h + 1 = _
        omega
      · rw [lnM, if_neg h2] at hh2 ⊢
        show (btM (teT T F (r * 12 + 0) (B r)) (sgM M.ki r 0)).h = _
        unfold btM
        rw [if_neg (show ¬ 24 ≤ (teT T F (r * 12 + 0) (B r)).h from fun z => by have z : 24 ≤ T.h := z; omega)]
        rfl
  · have hc2 : ¬ allF (teT T F (r * 12 + 0) (B r)).G 0 (T.w + 1) = true := fun z => hc (e1.symm.trans z)
    have hc3 : ¬ allF (teM T F (r * 12 + 0) (B r)) 0 (T.w + 1) = true := hc2
    rw [if_neg hc, if_neg hc3, if_neg hc2]
    exact ⟨rfl, R1, fun z => by cases z⟩
end
