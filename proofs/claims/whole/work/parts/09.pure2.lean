/-! what the loops compute, place by place -/
theorem updL_13 (C : Nat → Int64) (a b c d : Nat) (x : Int64) (hb : b < 13) (hd : d < 13) : vp_updL C (a * 13 + b) x (c * 13 + d) = if c = a ∧ d = b then x else C (c * 13 + d) := by
  unfold vp_updL
  by_cases h : c = a ∧ d = b
  · rw [if_pos h, if_pos (by omega)]
  · rw [if_neg h, if_neg (by omega)]
theorem tcL_at (C : Nat → Int64) (i : Nat) (f : Int64) : ∀ (n k : Nat) (G : Nat → Int64) (j : Nat), tcL C i f k n G j = if k ≤ j ∧ j < k + n then G j + f * C (i * 13 + j) else G j := by
  intro n
  induction n with
  | zero => intro k G j; rw [if_neg (by omega)]; rfl
  | succ n ih =>
    intro k G j
    rw [tcL, ih]
    by_cases h : j = k
    · subst h
      rw [if_neg (by omega), if_pos (by omega)]
      simp [vp_updL]
    · have e1 : vp_updL G k (G k + f * C (i * 13 + k)) j = G j := by simp [vp_updL, h]
      rw [e1]
      by_cases h2 : k ≤ j ∧ j < k + (n + 1)
      · rw [if_pos (by omega), if_pos h2]
      · rw [if_neg (by omega), if_neg h2]
theorem fillL_at (v : Int64) : ∀ (n k : Nat) (G : Nat → Int64) (j : Nat), fillL v k n G j = if k ≤ j ∧ j < k + n then v else G j := by
  intro n
  induction n with
  | zero => intro k G j; rw [if_neg (by omega)]; rfl
  | succ n ih =>
    intro k G j
    rw [fillL, ih]
    by_cases h : j = k
    · subst h
      rw [if_neg (by omega), if_pos (by omega)]
      simp [vp_updL]
    · have e1 : vp_updL G k v j = G j := by simp [vp_updL, h]
      rw [e1]
      by_cases h2 : k ≤ j ∧ j < k + (n + 1)
      · rw [if_pos (by omega), if_pos h2]
      · rw [if_neg (by omega), if_neg h2]
theorem csL_at (C : Nat → Int64) : ∀ (n k : Nat) (G : Nat → Int64) (j : Nat), csL C k n G j = if k ≤ j ∧ j < k + n then C (j * 13 + 0) else G j := by
  intro n
  induction n with
  | zero => intro k G j; rw [if_neg (by omega)]; rfl
  | succ n ih =>
    intro k G j
    rw [csL, ih]
    by_cases h : j = k
    · subst h
      rw [if_neg (by omega), if_pos (by omega)]
      simp [vp_updL]
    · have e1 : vp_updL G k (C (k * 13 + 0)) j = G j := by simp [vp_updL, h]
      rw [e1]
      by_cases h2 : k ≤ j ∧ j < k + (n + 1)
      · rw [if_pos (by omega), if_pos h2]
      · rw [if_neg (by omega), if_neg h2]
theorem mcL_at (C : Nat → Int64) (q : Nat) (f : Int64) : ∀ (n k : Nat) (G : Nat → Int64) (j : Nat), mcL C q f k n G j = if k ≤ j ∧ j < k + n then G j - C (j * 13 + q) * f else G j := by
  intro n
  induction n with
  | zero => intro k G j; rw [if_neg (by omega)]; rfl
  | succ n ih =>
    intro k G j
    rw [mcL, ih]
    by_cases h : j = k
    · subst h
      rw [if_neg (by omega), if_pos (by omega)]
      simp [vp_updL]
    · have e1 : vp_updL G k (G k - C (k * 13 + q) * f) j = G j := by simp [vp_updL, h]
      rw [e1]
      by_cases h2 : k ≤ j ∧ j < k + (n + 1)
      · rw [if_pos (by omega), if_pos h2]
      · rw [if_neg (by omega), if_neg h2]
theorem btL_at (G : Nat → Int64) (h : Nat) (s : Int64) : ∀ (n k : Nat) (C : Nat → Int64) (a b : Nat), k + n ≤ 13 → b < 13 → btL G h s k n C (a * 13 + b) = if a = h ∧ k ≤ b ∧ b < k + n then s * G b else C (a * 13 + b) := by
  intro n
  induction n with
  | zero => intro k C a b h1 h2; rw [if_neg (by omega)]; rfl
  | succ n ih =>
    intro k C a b h1 h2
    rw [btL, ih _ _ _ _ (by omega) h2, updL_13 _ _ _ _ _ _ (by omega) h2]
    by_cases h3 : a = h ∧ b = k
    · obtain ⟨rfl, rfl⟩ := h3
      rw [if_neg (by omega), if_pos ⟨rfl, rfl⟩, if_pos (by omega)]
    · rw [if_neg h3]
      by_cases h4 : a = h ∧ k ≤ b ∧ b < k + (n + 1)
      · rw [if_pos (by omega), if_pos h4]
      · rw [if_neg (by omega), if_neg h4]
theorem tkL_at (S : Nat → Int64) : ∀ (n k : Nat) (C : Nat → Int64) (a b : Nat), b < 13 → tkL S k n C (a * 13 + b) = if b = 0 ∧ k ≤ a ∧ a < k + n then S a else C (a * 13 + b) := by
  intro n
  induction n with
  | zero => intro k C a b h2; rw [if_neg (by omega)]; rfl
  | succ n ih =>
    intro k C a b h2
    rw [tkL, ih _ _ _ _ h2, updL_13 _ _ _ _ _ _ (by omega) h2]
    by_cases h3 : a = k ∧ b = 0
    · obtain ⟨rfl, rfl⟩ := h3
      rw [if_neg (by omega), if_pos ⟨rfl, rfl⟩, if_pos (by omega)]
    · rw [if_neg h3]
      by_cases h4 : b = 0 ∧ k ≤ a ∧ a < k + (n + 1)
      · rw [if_pos (by omega), if_pos h4]
      · rw [if_neg (by omega), if_neg h4]
theorem coL_at (d : Int64) (i le en : Nat) (p c : Int64) (hi : i ≠ le) : ∀ (n k : Nat) (C : Nat → Int64) (a b : Nat), k + n ≤ 13 → b < 13 → coL d i le en p c k n C (a * 13 + b) = if a = i ∧ k ≤ b ∧ b < k + n ∧ b ≠ en then afM d (C (i * 13 + b)) p c (C (le * 13 + b)) else C (a * 13 + b) := by
  intro n
  induction n with
  | zero => intro k C a b h1 h2; rw [if_neg (by omega)]; rfl
  | succ n ih =>
    intro k C a b h1 h2
    rw [coL, ih _ _ _ _ (by omega) h2]
    by_cases hk : k = en
    · rw [if_pos hk]
      by_cases h4 : a = i ∧ k ≤ b ∧ b < k + (n + 1) ∧ b ≠ en
      · rw [if_pos (by omega), if_pos h4]
      · rw [if_neg (by omega), if_neg h4]
    · rw [if_neg hk, updL_13 _ _ _ _ _ _ (by omega) h2, updL_13 _ _ _ _ _ _ (by omega) h2, updL_13 _ _ _ _ _ _ (by omega) h2]
      by_cases h3 : a = i ∧ b = k
      · obtain ⟨rfl, rfl⟩ := h3
        rw [if_neg (by omega), if_pos ⟨rfl, rfl⟩, if_pos (by omega)]
      · rw [if_neg h3]
        by_cases h4 : a = i ∧ k ≤ b ∧ b < k + (n + 1) ∧ b ≠ en
        · rw [if_pos (by omega), if_pos h4, if_neg (by omega), if_neg (by omega)]
        · rw [if_neg (by omega), if_neg h4]
theorem coM_at (d : Int64) (w i le en : Nat) (hi : i ≠ le) (hw : w ≤ 12) (C : Nat → Int64) (a b : Nat) (hb : b < 13) : coM d w i le en C (a * 13 + b) = if a = i ∧ b ≤ w ∧ b ≠ en then afM d (C (i * 13 + b)) (C (le * 13 + en)) (C (i * 13 + en)) (C (le * 13 + b)) else C (a * 13 + b) := by
  rw [coM, coL_at _ _ _ _ _ _ hi _ _ _ _ _ (by omega) hb]
  by_cases h4 : a = i ∧ b ≤ w ∧ b ≠ en
  · rw [if_pos (by omega), if_pos h4]
  · rw [if_neg (by omega), if_neg h4]
theorem chL_at (d : Int64) (w le en : Nat) (hw : w ≤ 12) (hen : en < 13) : ∀ (n k : Nat) (C : Nat → Int64) (a b : Nat), b < 13 → chL d w le en k n C (a * 13 + b) = if k ≤ a ∧ a < k + n ∧ a ≠ le ∧ b ≤ w ∧ b ≠ en then afM d (C (a * 13 + b)) (C (le * 13 + en)) (C (a * 13 + en)) (C (le * 13 + b)) else C (a * 13 + b) := by
  intro n
  induction n with
  | zero => intro k C a b h2; rw [if_neg (by omega)]; rfl
  | succ n ih =>
    intro k C a b h2
    rw [chL, ih _ _ _ _ h2]
    by_cases hk : k = le
    · rw [if_pos hk]
      by_cases h4 : k ≤ a ∧ a < k + (n + 1) ∧ a ≠ le ∧ b ≤ w ∧ b ≠ en
      · rw [if_pos (by omega), if_pos h4]
      · rw [if_neg (by omega), if_neg h4]
    · rw [if_neg hk, coM_at _ _ _ _ _ hk hw _ _ _ h2, coM_at _ _ _ _ _ hk hw _ _ _ hen, coM_at _ _ _ _ _ hk hw _ _ _ hen, coM_at _ _ _ _ _ hk hw _ _ _ h2]
      by_cases h3 : a = k
      · subst h3
        rw [if_neg (by omega)]
        by_cases h5 : b ≤ w ∧ b ≠ en
        · rw [if_pos (by omega), if_pos (by omega)]
        · rw [if_neg (by omega), if_neg (by omega)]
      · have e1 : ¬ (a = k ∧ b ≤ w ∧ b ≠ en) := by omega
        have e2 : ¬ (le = k ∧ en ≤ w ∧ en ≠ en) := by omega
        have e3 : ¬ (a = k ∧ en ≤ w ∧ en ≠ en) := by omega
        have e4 : ¬ (le = k ∧ b ≤ w ∧ b ≠ en) := by omega
        rw [if_neg e1, if_neg e2, if_neg e3, if_neg e4]
        by_cases h4 : k ≤ a ∧ a < k + (n + 1) ∧ a ≠ le ∧ b ≤ w ∧ b ≠ en
        · rw [if_pos (by omega), if_pos h4]
        · rw [if_neg (by omega), if_neg h4]
theorem ceL_at (d : Int64) (le en : Nat) : ∀ (n k : Nat) (C : Nat → Int64) (a b : Nat), k + n ≤ 13 → b < 13 → ceL d le en k n C (a * 13 + b) = if a = le ∧ k ≤ b ∧ b < k + n then (if b = en then d else -(C (le * 13 + b))) else C (a * 13 + b) := by
  intro n
  induction n with
  | zero => intro k C a b h1 h2; rw [if_neg (by omega)]; rfl
  | succ n ih =>
    intro k C a b h1 h2
    rw [ceL, ih _ _ _ _ (by omega) h2, updL_13 _ _ _ _ _ _ (by omega) h2, updL_13 _ _ _ _ _ _ (by omega) h2]
    by_cases h3 : a = le ∧ b = k
    · obtain ⟨rfl, rfl⟩ := h3
      rw [if_neg (by omega), if_pos ⟨rfl, rfl⟩, if_pos (show a = a ∧ b ≤ b ∧ b < b + (n + 1) by omega)]
    · rw [if_neg h3]
      by_cases h4 : a = le ∧ k ≤ b ∧ b < k + (n + 1)
      · rw [if_pos (by omega), if_pos h4, if_neg (show ¬ (le = le ∧ b = k) by omega)]
      · rw [if_neg (by omega), if_neg h4]
theorem allF_iff (f : Nat → Int64) : ∀ (n k : Nat), allF f k n = true ↔ ∀ j, k ≤ j → j < k + n → fits9 (f j) = true := by
  intro n
  induction n with
  | zero => intro k; simp [allF]; intro j h1 h2; omega
  | succ n ih =>
    intro k
    rw [allF, Bool.and_eq_true, ih]
    constructor
    · intro h j h1 h2
      by_cases h3 : j = k
      · subst h3; exact h.1
      · exact h.2 j (by omega) (by omega)
    · intro h
      exact ⟨h k (by omega) (by omega), fun j h1 h2 => h j (by omega) (by omega)⟩
theorem fnd_some {f : Nat → Int32} {v : Int32} : ∀ {n i j : Nat}, fnd f v i n = some j → f j = v := by
  intro n
  induction n with
  | zero => intro i j h; simp [fnd] at h
  | succ n ih =>
    intro i j h
    simp only [fnd] at h
    split at h
    · cases h; assumption
    · exact ih h
theorem fnd_none {f : Nat → Int32} {v : Int32} : ∀ {n i : Nat}, fnd f v i n = none → ∀ j, i ≤ j → j < i + n → f j ≠ v := by
  intro n
  induction n with
  | zero => intro i h j h1 h2; omega
  | succ n ih =>
    intro i h j h1 h2
    simp only [fnd] at h
    split at h
    · cases h
    · rename_i h3
      by_cases h4 : j = i
      · subst h4; exact h3
      · exact ih h j (by omega) (by omega)
