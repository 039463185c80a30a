set_option maxHeartbeats 4000000 in
set_option maxRecDepth 100000 in
theorem c_M_share (l : Launch) (dC : Nat → ClassId) (dI : Nat → Nat → Nat) (mo : Nat → Nat) (km : Nat → ClassId) (M : MS) (sz : Nat) (x pt : Int32) (hpl : ∀ v k, M.pl v = some k → k < 12) (hco : M.co ≤ 12) (hz : ∀ u, gcZ 100 (szR u) M.dn = true ∧ ¬ gcL 100 (szR u) M.dn = 0) : Met l yM_share wM_share ({ frames := 2, cells := 0, slots := 0, locals := 50 }) (wPc [.ref (mo 0), .int x, .int pt] sz (dC, dI) vwCl (MW mo km M) (MK km) xT) (wQ (some (.long ((shM M x pt).1))) (dC, dI) vwCl (MW mo km ((shM M x pt).2)) (va_A (MW mo km M) sz)) 0 0 (va_A (MW mo km M) sz) := by
  refine Met.ofW (cc := bM_share) (maxL := 3) (ret := (some .long)) (by decide) rfl ?_
  intro p e s m args below meth c s₁ B hml hv
  obtain ⟨rfl, hsz, hP, hK, hD0, hX⟩ := hv
  have hx := B.exec
  have hb := B.bytes
  have hr := B.returns
  have hts := atoms_spec (ws := wM_share) B.pre
  have hta : ∀ w ∈ AW, w.before _ s = true := fun w h => hts w (List.mem_cons_of_mem _ h)
  have hown : s.vm.findClass RM = some m.cls := findClass_of_methodNamed B.named
  have hlocks := B.notSynchronized
  subst hsz
  have hD := hD0.self (sz := s.heap.size)
  generalize hAe : va_A (MW mo km M) s.heap.size = A at hD ⊢
  have hA : ∀ q : Nat, s.heap.size ≤ q → A q := fun q h => by rw [← hAe]; exact Or.inr h
  have hS : va_S A s.heap s.heap [] := va_S.rf
  have hl := lv_entry ([.ref (mo 0), .int x, .int pt]) (n := 3) (Nat.le_of_ble_eq_true rfl)
  rw [lg_entry_eq]
  generalize (lg_sl ([.ref (mo 0), .int x, .int pt]) ++ List.replicate (3 - (lg_sl ([.ref (mo 0), .int x, .int pt])).length) Slot.unset).toArray = ls at hl ⊢
  have hl : lv_has ls 3 [(0, .ref (mo 0)), (1, .int x), (2, .int pt)] := hl
  rcases hi9 : idx M.co x with _ | q
  · have hi9n := idx_no hco hi9
    refine lv_aload_n hx hb dM_share_0 rfl (lv_at hl 0 rfl) ?_
    refine lv_iload_n hx hb dM_share_1 rfl (lv_at hl 1 rfl) ?_
    refine lv_i2l (v := x.toInt64) hx hb dM_share_2 rfl ?_
    refine lv_lconst (v := 0) hx hb dM_share_3 (by decide) ?_
    refine lv_aload_n hx hb dM_share_4 rfl (lv_at hl 0 rfl) ?_
    refine va_get (D := (dC, dI)) (ci := 2) (v := .int (nI M.co)) (C := RM) (T := FM) (N := 19) hx hb hta iM hown hK hP 0 rfl rfl 2 (by decide) (hta _ m_494) (fun _ h9 => h9) rfl dM_share_5 ?_
    refine lv_iconst (v := nI 1) hx hb dM_share_8 (by decide) ?_
    refine lv_isub hx hb dM_share_9 ?_
    refine lv_i2l (v := ((nI M.co) - (nI 1)).toInt64) hx hb dM_share_10 rfl ?_
    refine rd_call (va_runS (As := [.long x.toInt64, .long 0, .long (((nI M.co) - (nI 1)).toInt64)]) (rest := [.ref (mo 0)]) ⟨hx, hb, hml, hown, hta⟩ (c_M_isIn l dC dI mo km x.toInt64 0 (((nI M.co) - (nI 1)).toInt64)) (cwS 3 hta (gS m_559 m_560 m_4 m_561) rfl rfl rfl (by decide +kernel) ⟨Nat.le_of_ble_eq_true rfl, Nat.le_of_ble_eq_true rfl⟩) (rd_S xT_ok trivial (hK.sub [] rfl) va_P_nil) rfl rfl hl.1 rfl (lv_room (Nat.le_of_ble_eq_true rfl)) dM_share_11 ⟨Nat.zero_le _, Nat.zero_le _⟩) ?_
    refine W.eq (g2 := F0 m 14 ls [.int (bI (isInB x.toInt64 0 (((nI M.co) - (nI 1)).toInt64))), .ref (mo 0)]) rfl ?_
    refine lb_ne (tgt := 21) hx hb dM_share_14 (by decide) (fun hb9 => ?_) (fun hb9 => ?_)
    · exact absurd (hi9n.symm.trans hb9) (by decide)
    · refine lv_iconst (v := nI 1) hx hb dM_share_17 (by decide) ?_
      refine lv_goto (tgt := 34) hx hb dM_share_18 (by decide) ?_
      refine va_put (D := (dC, dI)) (ci := 2) (v := .int (nI 1)) (ty := .int) (C := RM) (T := FM) (N := 19) hx hb hta iM tM tM_ok nM hown hK hP hD hS 0 rfl rfl 0 (by decide) (hta _ m_492) (fun _ h9 => h9) rfl (by decide +kernel) rfl rfl (Nat.le_of_ble_eq_true rfl) dM_share_34 (fun H locs hP hD hS => ?_)
      have hP : va_P (dC, dI) vwCl (MW mo km (mTh M 1)) H := hP
      have hD : va_D A (MW mo km (mTh M 1)) := hD
      refine lv_aload_n hx hb dM_share_37 rfl (lv_at hl 0 rfl) ?_
      refine va_get (D := (dC, dI)) (ci := 2) (v := .int (nI 1)) (C := RM) (T := FM) (N := 19) hx hb hta iM hown hK hP 0 rfl rfl 0 (by decide) (hta _ m_492) (fun _ h9 => h9) rfl dM_share_38 ?_
      refine lz_le (tgt := 48) hx hb dM_share_41 (by decide) (fun c_1 => ?_) (fun c_1 => ?_)
      · exact absurd c_1 (by decide)
      · refine lv_lconst (v := 0) hx hb dM_share_44 (by decide) ?_
        refine lv_goto (tgt := 58) hx hb dM_share_45 (by decide) ?_
        exact W.lret (v := 0) hx hb hr (fun t ht hW => ⟨congrArg (fun z => Outcome.returned (some (.long z))) (by first | (simp only [shM, hi9]; done) | (simp only [shM, hi9]; rfl)), by rw [ht]; exact (by first | (simp only [shM, hi9]; exact hP)), hS.F ht⟩) hS.2.2 dM_share_58
  · have hi9y := idx_yes hco hi9
    obtain ⟨hi9l, hi9e⟩ := idx_some hi9
    rw [hi9e] at hi9y hl
    have hl : lv_has ls 3 [(0, .ref (mo 0)), (1, .int (nI q)), (2, .int pt)] := hl
    refine lv_aload_n hx hb dM_share_0 rfl (lv_at hl 0 rfl) ?_
    refine lv_iload_n hx hb dM_share_1 rfl (lv_at hl 1 rfl) ?_
    refine lv_i2l (v := (nI q).toInt64) hx hb dM_share_2 rfl ?_
    refine lv_lconst (v := 0) hx hb dM_share_3 (by decide) ?_
    refine lv_aload_n hx hb dM_share_4 rfl (lv_at hl 0 rfl) ?_
    refine va_get (D := (dC, dI)) (ci := 2) (v := .int (nI M.co)) (C := RM) (T := FM) (N := 19) hx hb hta iM hown hK hP 0 rfl rfl 2 (by decide) (hta _ m_494) (fun _ h9 => h9) rfl dM_share_5 ?_
    refine lv_iconst (v := nI 1) hx hb dM_share_8 (by decide) ?_
    refine lv_isub hx hb dM_share_9 ?_
    refine lv_i2l (v := ((nI M.co) - (nI 1)).toInt64) hx hb dM_share_10 rfl ?_
    refine rd_call (va_runS (As := [.long ((nI q).toInt64), .long 0, .long (((nI M.co) - (nI 1)).toInt64)]) (rest := [.ref (mo 0)]) ⟨hx, hb, hml, hown, hta⟩ (c_M_isIn l dC dI mo km ((nI q).toInt64) 0 (((nI M.co) - (nI 1)).toInt64)) (cwS 3 hta (gS m_559 m_560 m_4 m_561) rfl rfl rfl (by decide +kernel) ⟨Nat.le_of_ble_eq_true rfl, Nat.le_of_ble_eq_true rfl⟩) (rd_S xT_ok trivial (hK.sub [] rfl) va_P_nil) rfl rfl hl.1 rfl (lv_room (Nat.le_of_ble_eq_true rfl)) dM_share_11 ⟨Nat.zero_le _, Nat.zero_le _⟩) ?_
    refine W.eq (g2 := F0 m 14 ls [.int (bI (isInB ((nI q).toInt64) 0 (((nI M.co) - (nI 1)).toInt64))), .ref (mo 0)]) rfl ?_
    refine lb_ne (tgt := 21) hx hb dM_share_14 (by decide) (fun hb9 => ?_) (fun hb9 => ?_)
    · refine lv_aload_n hx hb dM_share_21 rfl (lv_at hl 0 rfl) ?_
      refine lv_iload_n hx hb dM_share_22 rfl (lv_at hl 2 rfl) ?_
      refine rd_call (va_runV (As := [.int pt]) (rest := [.ref (mo 0)]) ⟨hx, hb, hml, hown, hta⟩ (c_M_isPart l dC dI mo km M pt) (cwV 1 hta (gV m_628 m_630 mp_48 m_4 m_631) rfl rfl rfl (by decide +kernel) ⟨Nat.le_of_ble_eq_true rfl, Nat.le_of_ble_eq_true rfl⟩) (rd_V xT_ok trivial hK hP (ci := 2) (q0 := 0) rfl rfl) rfl rfl hl.1 rfl (lv_room (Nat.le_of_ble_eq_true rfl)) dM_share_23 ⟨Nat.zero_le _, Nat.zero_le _⟩) ?_
      refine W.eq (g2 := F0 m 26 ls [.int (bI (paB pt)), .ref (mo 0)]) rfl ?_
      refine lb_ne (tgt := 33) hx hb dM_share_26 (by decide) (fun h1 => ?_) (fun h1 => ?_)
      · refine lv_iconst (v := nI 0) hx hb dM_share_33 (by decide) ?_
        refine va_put (D := (dC, dI)) (ci := 2) (v := .int (nI 0)) (ty := .int) (C := RM) (T := FM) (N := 19) hx hb hta iM tM tM_ok nM hown hK hP hD hS 0 rfl rfl 0 (by decide) (hta _ m_492) (fun _ h9 => h9) rfl (by decide +kernel) rfl rfl (Nat.le_of_ble_eq_true rfl) dM_share_34 (fun H locs hP hD hS => ?_)
        have hP : va_P (dC, dI) vwCl (MW mo km (mTh M 0)) H := hP
        have hD : va_D A (MW mo km (mTh M 0)) := hD
        refine lv_aload_n hx hb dM_share_37 rfl (lv_at hl 0 rfl) ?_
        refine va_get (D := (dC, dI)) (ci := 2) (v := .int (nI 0)) (C := RM) (T := FM) (N := 19) hx hb hta iM hown hK hP 0 rfl rfl 0 (by decide) (hta _ m_492) (fun _ h9 => h9) rfl dM_share_38 ?_
        refine lz_le (tgt := 48) hx hb dM_share_41 (by decide) (fun c_2 => ?_) (fun c_2 => ?_)
        · refine lv_aload_n hx hb dM_share_48 rfl (lv_at hl 0 rfl) ?_
          refine lv_aload_n hx hb dM_share_49 rfl (lv_at hl 0 rfl) ?_
          refine lv_iload_n hx hb dM_share_50 rfl (lv_at hl 1 rfl) ?_
          refine rd_call (va_runV (As := [.int (nI q)]) (rest := [.ref (mo 0)]) ⟨hx, hb, hml, hown, hta⟩ (c_M_amount l dC dI mo km (mTh M 0) q hpl (by omega)) (cwV 1 hta (gV m_643 m_645 mp_50 m_4 m_646) rfl rfl rfl (by decide +kernel) ⟨Nat.le_of_ble_eq_true rfl, Nat.le_of_ble_eq_true rfl⟩) (rd_V xT_ok trivial hK hP (ci := 2) (q0 := 0) rfl rfl) rfl rfl hl.1 rfl (lv_room (Nat.le_of_ble_eq_true rfl)) dM_share_51 ⟨Nat.zero_le _, Nat.zero_le _⟩) ?_
          refine W.eq (g2 := F0 m 54 ls [.long (amR (mTh M 0) q), .ref (mo 0)]) rfl ?_
          refine lv_iload_n hx hb dM_share_54 rfl (lv_at hl 2 rfl) ?_
          refine rd_call (va_runV (As := [.long (amR (mTh M 0) q), .int pt]) (rest := []) ⟨hx, hb, hml, hown, hta⟩ (c_M_fraction l dC dI mo km (mTh M 0) (amR (mTh M 0) q) pt (hz _).1 (hz _).2) (cwV 2 hta (gV m_632 m_634 mp_49 m_4 m_635) rfl rfl rfl (by decide +kernel) ⟨Nat.le_of_ble_eq_true rfl, Nat.le_of_ble_eq_true rfl⟩) (rd_V xT_ok trivial hK hP (ci := 2) (q0 := 0) rfl rfl) rfl rfl hl.1 rfl (lv_room (Nat.le_of_ble_eq_true rfl)) dM_share_55 ⟨Nat.zero_le _, Nat.zero_le _⟩) ?_
          refine W.eq (g2 := F0 m 58 ls [.long (frR (amR (mTh M 0) q) M.dn pt)]) rfl ?_
          exact W.lret (v := frR (amR (mTh M 0) q) M.dn pt) hx hb hr (fun t ht hW => ⟨congrArg (fun z => Outcome.returned (some (.long z))) (by first | (simp only [shM, hi9, h1, if_true]; done) | (simp only [shM, hi9, h1, Bool.false_eq_true, if_false]; done) | (simp only [shM, hi9, h1, if_true]; rfl) | (simp only [shM, hi9, h1, Bool.false_eq_true, if_false]; rfl)), by rw [ht]; exact (by first | (simp only [shM, hi9, h1, if_true]; exact hP) | (simp only [shM, hi9, h1, Bool.false_eq_true, if_false]; exact hP)), hS.F ht⟩) hS.2.2 dM_share_58
        · exact absurd c_2 (by decide)
      · refine lv_iconst (v := nI 2) hx hb dM_share_29 (by decide) ?_
        refine lv_goto (tgt := 34) hx hb dM_share_30 (by decide) ?_
        refine va_put (D := (dC, dI)) (ci := 2) (v := .int (nI 2)) (ty := .int) (C := RM) (T := FM) (N := 19) hx hb hta iM tM tM_ok nM hown hK hP hD hS 0 rfl rfl 0 (by decide) (hta _ m_492) (fun _ h9 => h9) rfl (by decide +kernel) rfl rfl (Nat.le_of_ble_eq_true rfl) dM_share_34 (fun H locs hP hD hS => ?_)
        have hP : va_P (dC, dI) vwCl (MW mo km (mTh M 2)) H := hP
        have hD : va_D A (MW mo km (mTh M 2)) := hD
        refine lv_aload_n hx hb dM_share_37 rfl (lv_at hl 0 rfl) ?_
        refine va_get (D := (dC, dI)) (ci := 2) (v := .int (nI 2)) (C := RM) (T := FM) (N := 19) hx hb hta iM hown hK hP 0 rfl rfl 0 (by decide) (hta _ m_492) (fun _ h9 => h9) rfl dM_share_38 ?_
        refine lz_le (tgt := 48) hx hb dM_share_41 (by decide) (fun c_3 => ?_) (fun c_3 => ?_)
        · exact absurd c_3 (by decide)
        · refine lv_lconst (v := 0) hx hb dM_share_44 (by decide) ?_
          refine lv_goto (tgt := 58) hx hb dM_share_45 (by decide) ?_
          exact W.lret (v := 0) hx hb hr (fun t ht hW => ⟨congrArg (fun z => Outcome.returned (some (.long z))) (by first | (simp only [shM, hi9, h1, if_true]; done) | (simp only [shM, hi9, h1, Bool.false_eq_true, if_false]; done) | (simp only [shM, hi9, h1, if_true]; rfl) | (simp only [shM, hi9, h1, Bool.false_eq_true, if_false]; rfl)), by rw [ht]; exact (by first | (simp only [shM, hi9, h1, if_true]; exact hP) | (simp only [shM, hi9, h1, Bool.false_eq_true, if_false]; exact hP)), hS.F ht⟩) hS.2.2 dM_share_58
    · exact absurd (hi9y.symm.trans hb9) (by decide)

set_option maxHeartbeats 4000000 in
set_option maxRecDepth 100000 in
theorem c_M_dual (l : Launch) (dC : Nat → ClassId) (dI : Nat → Nat → Nat) (mo : Nat → Nat) (km : Nat → ClassId) (M : MS) (sz : Nat) (x pt : Int32) (hpl : ∀ v k, M.pl v = some k → k < 12) (hli : ∀ r v, M.li r = some v → v < 36) (hro : M.ro ≤ 12) (hz : ∀ u, gcZ 100 (szR u) M.dn = true ∧ ¬ gcL 100 (szR u) M.dn = 0) : Met l yM_dual wM_dual ({ frames := 2, cells := 0, slots := 0, locals := 50 }) (wPc [.ref (mo 0), .int x, .int pt] sz (dC, dI) vwCl (MW mo km M) (MK km) xT) (wQ (some (.long ((duM M x pt).1))) (dC, dI) vwCl (MW mo km ((duM M x pt).2)) (va_A (MW mo km M) sz)) 0 0 (va_A (MW mo km M) sz) := by
  refine Met.ofW (cc := bM_dual) (maxL := 6) (ret := (some .long)) (by decide) rfl ?_
  intro p e s m args below meth c s₁ B hml hv
  obtain ⟨rfl, hsz, hP, hK, hD0, hX⟩ := hv
  have hx := B.exec
  have hb := B.bytes
  have hr := B.returns
  have hts := atoms_spec (ws := wM_dual) B.pre
  have hta : ∀ w ∈ AW, w.before _ s = true := fun w h => hts w (List.mem_cons_of_mem _ h)
  have hown : s.vm.findClass RM = some m.cls := findClass_of_methodNamed B.named
  have hlocks := B.notSynchronized
  subst hsz
  have hD := hD0.self (sz := s.heap.size)
  generalize hAe : va_A (MW mo km M) s.heap.size = A at hD ⊢
  have hA : ∀ q : Nat, s.heap.size ≤ q → A q := fun q h => by rw [← hAe]; exact Or.inr h
  have hS : va_S A s.heap s.heap [] := va_S.rf
  have hl := lv_entry ([.ref (mo 0), .int x, .int pt]) (n := 6) (Nat.le_of_ble_eq_true rfl)
  rw [lg_entry_eq]
  generalize (lg_sl ([.ref (mo 0), .int x, .int pt]) ++ List.replicate (6 - (lg_sl ([.ref (mo 0), .int x, .int pt])).length) Slot.unset).toArray = ls at hl ⊢
  have hl : lv_has ls 6 [(0, .ref (mo 0)), (1, .int x), (2, .int pt)] := hl
  rcases hi9 : idx M.ro x with _ | r
  · have hi9n := idx_no hro hi9
    refine lv_aload_n hx hb dM_dual_0 rfl (lv_at hl 0 rfl) ?_
    refine lv_iload_n hx hb dM_dual_1 rfl (lv_at hl 1 rfl) ?_
    refine lv_i2l (v := x.toInt64) hx hb dM_dual_2 rfl ?_
    refine lv_lconst (v := 0) hx hb dM_dual_3 (by decide) ?_
    refine lv_aload_n hx hb dM_dual_4 rfl (lv_at hl 0 rfl) ?_
    refine va_get (D := (dC, dI)) (ci := 2) (v := .int (nI M.ro)) (C := RM) (T := FM) (N := 19) hx hb hta iM hown hK hP 0 rfl rfl 4 (by decide) (hta _ m_496) (fun _ h9 => h9) rfl dM_dual_5 ?_
    refine lv_iconst (v := nI 1) hx hb dM_dual_8 (by decide) ?_
    refine lv_isub hx hb dM_dual_9 ?_
    refine lv_i2l (v := ((nI M.ro) - (nI 1)).toInt64) hx hb dM_dual_10 rfl ?_
    refine rd_call (va_runS (As := [.long x.toInt64, .long 0, .long (((nI M.ro) - (nI 1)).toInt64)]) (rest := [.ref (mo 0)]) ⟨hx, hb, hml, hown, hta⟩ (c_M_isIn l dC dI mo km x.toInt64 0 (((nI M.ro) - (nI 1)).toInt64)) (cwS 3 hta (gS m_559 m_560 m_4 m_561) rfl rfl rfl (by decide +kernel) ⟨Nat.le_of_ble_eq_true rfl, Nat.le_of_ble_eq_true rfl⟩) (rd_S xT_ok trivial (hK.sub [] rfl) va_P_nil) rfl rfl hl.1 rfl (lv_room (Nat.le_of_ble_eq_true rfl)) dM_dual_11 ⟨Nat.zero_le _, Nat.zero_le _⟩) ?_
    refine W.eq (g2 := F0 m 14 ls [.int (bI (isInB x.toInt64 0 (((nI M.ro) - (nI 1)).toInt64))), .ref (mo 0)]) rfl ?_
    refine lb_ne (tgt := 21) hx hb dM_dual_14 (by decide) (fun hb9 => ?_) (fun hb9 => ?_)
    · exact absurd (hi9n.symm.trans hb9) (by decide)
    · refine lv_iconst (v := nI 1) hx hb dM_dual_17 (by decide) ?_
      refine lv_goto (tgt := 34) hx hb dM_dual_18 (by decide) ?_
      refine va_put (D := (dC, dI)) (ci := 2) (v := .int (nI 1)) (ty := .int) (C := RM) (T := FM) (N := 19) hx hb hta iM tM tM_ok nM hown hK hP hD hS 0 rfl rfl 0 (by decide) (hta _ m_492) (fun _ h9 => h9) rfl (by decide +kernel) rfl rfl (Nat.le_of_ble_eq_true rfl) dM_dual_34 (fun H locs hP hD hS => ?_)
      have hP : va_P (dC, dI) vwCl (MW mo km (mTh M 1)) H := hP
      have hD : va_D A (MW mo km (mTh M 1)) := hD
      refine lv_aload_n hx hb dM_dual_37 rfl (lv_at hl 0 rfl) ?_
      refine va_get (D := (dC, dI)) (ci := 2) (v := .int (nI 1)) (C := RM) (T := FM) (N := 19) hx hb hta iM hown hK hP 0 rfl rfl 0 (by decide) (hta _ m_492) (fun _ h9 => h9) rfl dM_dual_38 ?_
      refine lz_le (tgt := 46) hx hb dM_dual_41 (by decide) (fun c_1 => ?_) (fun c_1 => ?_)
      · exact absurd c_1 (by decide)
      · refine lv_lconst (v := 0) hx hb dM_dual_44 (by decide) ?_
        exact W.lret (v := 0) hx hb hr (fun t ht hW => ⟨congrArg (fun z => Outcome.returned (some (.long z))) (by first | (simp only [duM, hi9]; done) | (simp only [duM, hi9]; rfl)), by rw [ht]; exact (by first | (simp only [duM, hi9]; exact hP)), hS.F ht⟩) hS.2.2 dM_dual_45
  · have hi9y := idx_yes hro hi9
    obtain ⟨hi9l, hi9e⟩ := idx_some hi9
    rw [hi9e] at hi9y hl
    have hl : lv_has ls 6 [(0, .ref (mo 0)), (1, .int (nI r)), (2, .int pt)] := hl
    refine lv_aload_n hx hb dM_dual_0 rfl (lv_at hl 0 rfl) ?_
    refine lv_iload_n hx hb dM_dual_1 rfl (lv_at hl 1 rfl) ?_
    refine lv_i2l (v := (nI r).toInt64) hx hb dM_dual_2 rfl ?_
    refine lv_lconst (v := 0) hx hb dM_dual_3 (by decide) ?_
    refine lv_aload_n hx hb dM_dual_4 rfl (lv_at hl 0 rfl) ?_
    refine va_get (D := (dC, dI)) (ci := 2) (v := .int (nI M.ro)) (C := RM) (T := FM) (N := 19) hx hb hta iM hown hK hP 0 rfl rfl 4 (by decide) (hta _ m_496) (fun _ h9 => h9) rfl dM_dual_5 ?_
    refine lv_iconst (v := nI 1) hx hb dM_dual_8 (by decide) ?_
    refine lv_isub hx hb dM_dual_9 ?_
    refine lv_i2l (v := ((nI M.ro) - (nI 1)).toInt64) hx hb dM_dual_10 rfl ?_
    refine rd_call (va_runS (As := [.long ((nI r).toInt64), .long 0, .long (((nI M.ro) - (nI 1)).toInt64)]) (rest := [.ref (mo 0)]) ⟨hx, hb, hml, hown, hta⟩ (c_M_isIn l dC dI mo km ((nI r).toInt64) 0 (((nI M.ro) - (nI 1)).toInt64)) (cwS 3 hta (gS m_559 m_560 m_4 m_561) rfl rfl rfl (by decide +kernel) ⟨Nat.le_of_ble_eq_true rfl, Nat.le_of_ble_eq_true rfl⟩) (rd_S xT_ok trivial (hK.sub [] rfl) va_P_nil) rfl rfl hl.1 rfl (lv_room (Nat.le_of_ble_eq_true rfl)) dM_dual_11 ⟨Nat.zero_le _, Nat.zero_le _⟩) ?_
    refine W.eq (g2 := F0 m 14 ls [.int (bI (isInB ((nI r).toInt64) 0 (((nI M.ro) - (nI 1)).toInt64))), .ref (mo 0)]) rfl ?_
    refine lb_ne (tgt := 21) hx hb dM_dual_14 (by decide) (fun hb9 => ?_) (fun hb9 => ?_)
    · refine lv_aload_n hx hb dM_dual_21 rfl (lv_at hl 0 rfl) ?_
      refine lv_iload_n hx hb dM_dual_22 rfl (lv_at hl 2 rfl) ?_
      refine rd_call (va_runV (As := [.int pt]) (rest := [.ref (mo 0)]) ⟨hx, hb, hml, hown, hta⟩ (c_M_isPart l dC dI mo km M pt) (cwV 1 hta (gV m_628 m_630 mp_48 m_4 m_631) rfl rfl rfl (by decide +kernel) ⟨Nat.le_of_ble_eq_true rfl, Nat.le_of_ble_eq_true rfl⟩) (rd_V xT_ok trivial hK hP (ci := 2) (q0 := 0) rfl rfl) rfl rfl hl.1 rfl (lv_room (Nat.le_of_ble_eq_true rfl)) dM_dual_23 ⟨Nat.zero_le _, Nat.zero_le _⟩) ?_
      refine W.eq (g2 := F0 m 26 ls [.int (bI (paB pt)), .ref (mo 0)]) rfl ?_
      refine lb_ne (tgt := 33) hx hb dM_dual_26 (by decide) (fun h1 => ?_) (fun h1 => ?_)
      · refine lv_iconst (v := nI 0) hx hb dM_dual_33 (by decide) ?_
        refine va_put (D := (dC, dI)) (ci := 2) (v := .int (nI 0)) (ty := .int) (C := RM) (T := FM) (N := 19) hx hb hta iM tM tM_ok nM hown hK hP hD hS 0 rfl rfl 0 (by decide) (hta _ m_492) (fun _ h9 => h9) rfl (by decide +kernel) rfl rfl (Nat.le_of_ble_eq_true rfl) dM_dual_34 (fun H locs hP hD hS => ?_)
        have hP : va_P (dC, dI) vwCl (MW mo km (mTh M 0)) H := hP
        have hD : va_D A (MW mo km (mTh M 0)) := hD
        refine lv_aload_n hx hb dM_dual_37 rfl (lv_at hl 0 rfl) ?_
        refine va_get (D := (dC, dI)) (ci := 2) (v := .int (nI 0)) (C := RM) (T := FM) (N := 19) hx hb hta iM hown hK hP 0 rfl rfl 0 (by decide) (hta _ m_492) (fun _ h9 => h9) rfl dM_dual_38 ?_
        refine lz_le (tgt := 46) hx hb dM_dual_41 (by decide) (fun c_2 => ?_) (fun c_2 => ?_)
        · have join111 : ∀ (ls : Array Slot), lv_has ls 6 [(0, .ref (mo 0)), (1, .int (nI r)), (2, .int pt)] → W p l e (headSpec wM_dual ({ frames := 2, cells := 0, slots := 0, locals := 50 })).room s m ([.ref (mo 0), .int x, .int pt] : List Value).toArray below meth c H locs 0 0 (MQ below (wQ (some (.long ((duM M x pt).1))) (dC, dI) vwCl (MW mo km ((duM M x pt).2)) A) ([.ref (mo 0), .int x, .int pt] : List Value).toArray s 0 0 A) (F0 m 111 ls [.long (duR M r)]) := by
            intro ls hl
            refine lv_lstore (lv' := [(4, .long (duR M r)), (0, .ref (mo 0)), (1, .int (nI r)), (2, .int pt)]) hx hb dM_dual_111 hl (by decide) rfl (fun ls hl => ?_)
            refine lv_aload_n hx hb dM_dual_113 rfl (lv_at hl 1 rfl) ?_
            refine lv_lload hx hb dM_dual_114 (lv_at hl 0 rfl) ?_
            refine lv_iload_n hx hb dM_dual_116 rfl (lv_at hl 3 rfl) ?_
            refine rd_call (va_runV (As := [.long (duR M r), .int pt]) (rest := []) ⟨hx, hb, hml, hown, hta⟩ (c_M_fraction l dC dI mo km (mTh M 0) (duR M r) pt (hz _).1 (hz _).2) (cwV 2 hta (gV m_632 m_634 mp_49 m_4 m_635) rfl rfl rfl (by decide +kernel) ⟨Nat.le_of_ble_eq_true rfl, Nat.le_of_ble_eq_true rfl⟩) (rd_V xT_ok trivial hK hP (ci := 2) (q0 := 0) rfl rfl) rfl rfl hl.1 rfl (lv_room (Nat.le_of_ble_eq_true rfl)) dM_dual_117 ⟨Nat.zero_le _, Nat.zero_le _⟩) ?_
            refine W.eq (g2 := F0 m 120 ls [.long (frR (duR M r) M.dn pt)]) rfl ?_
            exact W.lret (v := frR (duR M r) M.dn pt) hx hb hr (fun t ht hW => ⟨congrArg (fun z => Outcome.returned (some (.long z))) (by first | (simp only [duM, hi9, h1, if_true]; done) | (simp only [duM, hi9, h1, if_true]; rfl)), by rw [ht]; exact (by first | (simp only [duM, hi9, h1, if_true]; exact hP)), hS.F ht⟩) hS.2.2 dM_dual_120
          refine lv_aload_n hx hb dM_dual_46 rfl (lv_at hl 0 rfl) ?_
          refine va_get (D := (dC, dI)) (ci := 2) (v := .ref (mo 6)) (C := RM) (T := FM) (N := 19) hx hb hta iM hown hK hP 0 rfl rfl 9 (by decide) (hta _ m_501) (fun _ h9 => h9) rfl dM_dual_47 ?_
          refine lv_iload_n hx hb dM_dual_50 rfl (lv_at hl 1 rfl) ?_
          refine na_iald hx hb hK hP 6 5 rfl rfl (i := r) (by omega) (by decide) dM_dual_51 ?_
          refine W.eq (g2 := F0 m 52 ls [.int (enc (M.li r))]) rfl ?_
          refine lv_istore_n (lv' := [(3, .int (enc (M.li r))), (0, .ref (mo 0)), (1, .int (nI r)), (2, .int pt)]) hx hb dM_dual_52 rfl hl (by decide) rfl (fun ls hl => ?_)
          refine lv_iload_n hx hb dM_dual_53 rfl (lv_at hl 0 rfl) ?_
          refine lv_iconst (v := (-1)) hx hb dM_dual_54 (by decide) ?_
          refine en_ne (o := (M.li r)) (tgt := 62) hx hb dM_dual_55 (by decide) (fun j h => by have := hli _ _ h; omega) (fun q ho => ?_) (fun ho => ?_)
          · rw [ho] at hl
            have hl : lv_has ls 6 [(3, .int (nI q)), (0, .ref (mo 0)), (1, .int (nI r)), (2, .int pt)] := hl
            have hq9 := hli _ _ ho
            refine lv_aload_n hx hb dM_dual_62 rfl (lv_at hl 1 rfl) ?_
            refine va_get (D := (dC, dI)) (ci := 2) (v := .ref (mo 2)) (C := RM) (T := FM) (N := 19) hx hb hta iM hown hK hP 0 rfl rfl 5 (by decide) (hta _ m_497) (fun _ h9 => h9) rfl dM_dual_63 ?_
            refine lv_iload_n hx hb dM_dual_66 rfl (lv_at hl 2 rfl) ?_
            refine na_iald hx hb hK hP 2 1 rfl rfl (i := r) (by omega) (by decide) dM_dual_67 ?_
            refine lv_iconst (v := 1) hx hb dM_dual_68 (by decide) ?_
            refine lv_icmp_ne (tgt := 81) hx hb dM_dual_69 (by decide) (fun h2 => ?_) (fun h2 => ?_)
            · have h2 : ¬ M.ki r = 1 := h2
              refine lv_aload_n hx hb dM_dual_81 rfl (lv_at hl 1 rfl) ?_
              refine va_get (D := (dC, dI)) (ci := 2) (v := .ref (mo 2)) (C := RM) (T := FM) (N := 19) hx hb hta iM hown hK hP 0 rfl rfl 5 (by decide) (hta _ m_497) (fun _ h9 => h9) rfl dM_dual_82 ?_
              refine lv_iload_n hx hb dM_dual_85 rfl (lv_at hl 2 rfl) ?_
              refine na_iald hx hb hK hP 2 1 rfl rfl (i := r) (by omega) (by decide) dM_dual_86 ?_
              refine lv_if_ne (tgt := 98) hx hb dM_dual_87 (by decide) (fun h3 => ?_) (fun h3 => ?_)
              · have h3 : ¬ M.ki r = 0 := h3
                refine lv_aload_n hx hb dM_dual_98 rfl (lv_at hl 1 rfl) ?_
                refine lv_iload_n hx hb dM_dual_99 rfl (lv_at hl 0 rfl) ?_
                refine rd_call (va_runV (As := [.int (nI q)]) (rest := []) ⟨hx, hb, hml, hown, hta⟩ (c_M_price l dC dI mo km (mTh M 0) q hpl (by omega)) (cwV 1 hta (gV m_651 m_653 mp_51 m_4 m_654) rfl rfl rfl (by decide +kernel) ⟨Nat.le_of_ble_eq_true rfl, Nat.le_of_ble_eq_true rfl⟩) (rd_V xT_ok trivial hK hP (ci := 2) (q0 := 0) rfl rfl) rfl rfl hl.1 rfl (lv_room (Nat.le_of_ble_eq_true rfl)) dM_dual_100 ⟨Nat.zero_le _, Nat.zero_le _⟩) ?_
                refine W.eq (g2 := F0 m 103 ls [.long (prR (mTh M 0) q)]) rfl ?_
                refine lv_aload_n hx hb dM_dual_103 rfl (lv_at hl 1 rfl) ?_
                refine lv_iload_n hx hb dM_dual_104 rfl (lv_at hl 0 rfl) ?_
                refine lv_iconst (v := nI 1) hx hb dM_dual_105 (by decide) ?_
                refine lv_iadd hx hb dM_dual_106 ?_
                refine st_i (y := nI (q + 1)) (nI_add _ _) ?_
                refine rd_call (va_runV (As := [.int (nI (q + 1))]) (rest := [.long (prR (mTh M 0) q)]) ⟨hx, hb, hml, hown, hta⟩ (c_M_price l dC dI mo km (mTh M 0) (q + 1) hpl (by omega)) (cwV 1 hta (gV m_651 m_653 mp_51 m_4 m_654) rfl rfl rfl (by decide +kernel) ⟨Nat.le_of_ble_eq_true rfl, Nat.le_of_ble_eq_true rfl⟩) (rd_V xT_ok trivial hK hP (ci := 2) (q0 := 0) rfl rfl) rfl rfl hl.1 rfl (lv_room (Nat.le_of_ble_eq_true rfl)) dM_dual_107 ⟨Nat.zero_le _, Nat.zero_le _⟩) ?_
                refine W.eq (g2 := F0 m 110 ls [.long (prR (mTh M 0) (q + 1)), .long (prR (mTh M 0) q)]) rfl ?_
                refine lv_lsub hx hb dM_dual_110 ?_
                refine st_l (y := duR M r) (by first | (simp only [duR, ho]; done) | (simp only [duR, ho, h2, if_true]; rfl; done) | (simp only [duR, ho, h2, h3, if_true, if_false]; rfl; done)) ?_
                exact join111 ls (lv_sub hl [1, 2, 3] rfl)
              · have h3 : M.ki r = 0 := h3
                refine lv_aload_n hx hb dM_dual_90 rfl (lv_at hl 1 rfl) ?_
                refine lv_iload_n hx hb dM_dual_91 rfl (lv_at hl 0 rfl) ?_
                refine rd_call (va_runV (As := [.int (nI q)]) (rest := []) ⟨hx, hb, hml, hown, hta⟩ (c_M_price l dC dI mo km (mTh M 0) q hpl (by omega)) (cwV 1 hta (gV m_651 m_653 mp_51 m_4 m_654) rfl rfl rfl (by decide +kernel) ⟨Nat.le_of_ble_eq_true rfl, Nat.le_of_ble_eq_true rfl⟩) (rd_V xT_ok trivial hK hP (ci := 2) (q0 := 0) rfl rfl) rfl rfl hl.1 rfl (lv_room (Nat.le_of_ble_eq_true rfl)) dM_dual_92 ⟨Nat.zero_le _, Nat.zero_le _⟩) ?_
                refine W.eq (g2 := F0 m 95 ls [.long (prR (mTh M 0) q)]) rfl ?_
                refine lv_goto (tgt := 111) hx hb dM_dual_95 (by decide) ?_
                refine st_l (y := duR M r) (by first | (simp only [duR, ho]; done) | (simp only [duR, ho, h2, if_true]; rfl; done) | (simp only [duR, ho, h2, h3, if_true, if_false]; rfl; done)) ?_
                exact join111 ls (lv_sub hl [1, 2, 3] rfl)
            · have h2 : M.ki r = 1 := h2
              refine lv_aload_n hx hb dM_dual_72 rfl (lv_at hl 1 rfl) ?_
              refine lv_iload_n hx hb dM_dual_73 rfl (lv_at hl 0 rfl) ?_
              refine rd_call (va_runV (As := [.int (nI q)]) (rest := []) ⟨hx, hb, hml, hown, hta⟩ (c_M_price l dC dI mo km (mTh M 0) q hpl (by omega)) (cwV 1 hta (gV m_651 m_653 mp_51 m_4 m_654) rfl rfl rfl (by decide +kernel) ⟨Nat.le_of_ble_eq_true rfl, Nat.le_of_ble_eq_true rfl⟩) (rd_V xT_ok trivial hK hP (ci := 2) (q0 := 0) rfl rfl) rfl rfl hl.1 rfl (lv_room (Nat.le_of_ble_eq_true rfl)) dM_dual_74 ⟨Nat.zero_le _, Nat.zero_le _⟩) ?_
              refine W.eq (g2 := F0 m 77 ls [.long (prR (mTh M 0) q)]) rfl ?_
              refine lv_lneg hx hb dM_dual_77 ?_
              refine lv_goto (tgt := 111) hx hb dM_dual_78 (by decide) ?_
              refine st_l (y := duR M r) (by first | (simp only [duR, ho]; done) | (simp only [duR, ho, h2, if_true]; rfl; done) | (simp only [duR, ho, h2, h3, if_true, if_false]; rfl; done)) ?_
              exact join111 ls (lv_sub hl [1, 2, 3] rfl)
          · rw [ho] at hl
            have hl : lv_has ls 6 [(3, .int (-1)), (0, .ref (mo 0)), (1, .int (nI r)), (2, .int pt)] := hl
            refine lv_lconst (v := 0) hx hb dM_dual_58 (by decide) ?_
            refine lv_goto (tgt := 111) hx hb dM_dual_59 (by decide) ?_
            refine st_l (y := duR M r) (by first | (simp only [duR, ho]; done) | (simp only [duR, ho, h2, if_true]; rfl; done) | (simp only [duR, ho, h2, h3, if_true, if_false]; rfl; done)) ?_
            exact join111 ls (lv_sub hl [1, 2, 3] rfl)
        · exact absurd c_2 (by decide)
      · refine lv_iconst (v := nI 2) hx hb dM_dual_29 (by decide) ?_
        refine lv_goto (tgt := 34) hx hb dM_dual_30 (by decide) ?_
        refine va_put (D := (dC, dI)) (ci := 2) (v := .int (nI 2)) (ty := .int) (C := RM) (T := FM) (N := 19) hx hb hta iM tM tM_ok nM hown hK hP hD hS 0 rfl rfl 0 (by decide) (hta _ m_492) (fun _ h9 => h9) rfl (by decide +kernel) rfl rfl (Nat.le_of_ble_eq_true rfl) dM_dual_34 (fun H locs hP hD hS => ?_)
        have hP : va_P (dC, dI) vwCl (MW mo km (mTh M 2)) H := hP
        have hD : va_D A (MW mo km (mTh M 2)) := hD
        refine lv_aload_n hx hb dM_dual_37 rfl (lv_at hl 0 rfl) ?_
        refine va_get (D := (dC, dI)) (ci := 2) (v := .int (nI 2)) (C := RM) (T := FM) (N := 19) hx hb hta iM hown hK hP 0 rfl rfl 0 (by decide) (hta _ m_492) (fun _ h9 => h9) rfl dM_dual_38 ?_
        refine lz_le (tgt := 46) hx hb dM_dual_41 (by decide) (fun c_3 => ?_) (fun c_3 => ?_)
        · exact absurd c_3 (by decide)
        · refine lv_lconst (v := 0) hx hb dM_dual_44 (by decide) ?_
          exact W.lret (v := 0) hx hb hr (fun t ht hW => ⟨congrArg (fun z => Outcome.returned (some (.long z))) (by first | (simp only [duM, hi9, h1, Bool.false_eq_true, if_false]; done) | (simp only [duM, hi9, h1, Bool.false_eq_true, if_false]; rfl)), by rw [ht]; exact (by first | (simp only [duM, hi9, h1, Bool.false_eq_true, if_false]; exact hP)), hS.F ht⟩) hS.2.2 dM_dual_45
    · exact absurd (hi9y.symm.trans hb9) (by decide)

set_option maxHeartbeats 4000000 in
set_option maxRecDepth 100000 in
theorem c_M_factorOf (l : Launch) (dC : Nat → ClassId) (dI : Nat → Nat → Nat) (mo : Nat → Nat) (km : Nat → ClassId) (M : MS) (sz : Nat) (x pt : Int32) (hpl : ∀ v k, M.pl v = some k → k < 12) (hli : ∀ r v, M.li r = some v → v < 36) (hro : M.ro ≤ 12) (hag : ∀ g, M.ag = some g → g < 36) (hz : ∀ u, gcZ 100 (szR u) M.dn = true ∧ ¬ gcL 100 (szR u) M.dn = 0) : Met l yM_factorOf wM_factorOf ({ frames := 2, cells := 0, slots := 0, locals := 50 }) (wPc [.ref (mo 0), .int x, .int pt] sz (dC, dI) vwCl (MW mo km M) (MK km) xT) (wQ (some (.long ((foM M x pt).1))) (dC, dI) vwCl (MW mo km ((foM M x pt).2)) (va_A (MW mo km M) sz)) 0 0 (va_A (MW mo km M) sz) := by
  refine Met.ofW (cc := bM_factorOf) (maxL := 6) (ret := (some .long)) (by decide) rfl ?_
  intro p e s m args below meth c s₁ B hml hv
  obtain ⟨rfl, hsz, hP, hK, hD0, hX⟩ := hv
  have hx := B.exec
  have hb := B.bytes
  have hr := B.returns
  have hts := atoms_spec (ws := wM_factorOf) B.pre
  have hta : ∀ w ∈ AW, w.before _ s = true := fun w h => hts w (List.mem_cons_of_mem _ h)
  have hown : s.vm.findClass RM = some m.cls := findClass_of_methodNamed B.named
  have hlocks := B.notSynchronized
  subst hsz
  have hD := hD0.self (sz := s.heap.size)
  generalize hAe : va_A (MW mo km M) s.heap.size = A at hD ⊢
  have hA : ∀ q : Nat, s.heap.size ≤ q → A q := fun q h => by rw [← hAe]; exact Or.inr h
  have hS : va_S A s.heap s.heap [] := va_S.rf
  have hl := lv_entry ([.ref (mo 0), .int x, .int pt]) (n := 6) (Nat.le_of_ble_eq_true rfl)
  rw [lg_entry_eq]
  generalize (lg_sl ([.ref (mo 0), .int x, .int pt]) ++ List.replicate (6 - (lg_sl ([.ref (mo 0), .int x, .int pt])).length) Slot.unset).toArray = ls at hl ⊢
  have hl : lv_has ls 6 [(0, .ref (mo 0)), (1, .int x), (2, .int pt)] := hl
  rcases hi9 : idx M.ro x with _ | r
  · have hi9n := idx_no hro hi9
    refine lv_aload_n hx hb dM_factorOf_0 rfl (lv_at hl 0 rfl) ?_
    refine lv_iload_n hx hb dM_factorOf_1 rfl (lv_at hl 1 rfl) ?_
    refine lv_i2l (v := x.toInt64) hx hb dM_factorOf_2 rfl ?_
    refine lv_lconst (v := 0) hx hb dM_factorOf_3 (by decide) ?_
    refine lv_aload_n hx hb dM_factorOf_4 rfl (lv_at hl 0 rfl) ?_
    refine va_get (D := (dC, dI)) (ci := 2) (v := .int (nI M.ro)) (C := RM) (T := FM) (N := 19) hx hb hta iM hown hK hP 0 rfl rfl 4 (by decide) (hta _ m_496) (fun _ h9 => h9) rfl dM_factorOf_5 ?_
    refine lv_iconst (v := nI 1) hx hb dM_factorOf_8 (by decide) ?_
    refine lv_isub hx hb dM_factorOf_9 ?_
    refine lv_i2l (v := ((nI M.ro) - (nI 1)).toInt64) hx hb dM_factorOf_10 rfl ?_
    refine rd_call (va_runS (As := [.long x.toInt64, .long 0, .long (((nI M.ro) - (nI 1)).toInt64)]) (rest := [.ref (mo 0)]) ⟨hx, hb, hml, hown, hta⟩ (c_M_isIn l dC dI mo km x.toInt64 0 (((nI M.ro) - (nI 1)).toInt64)) (cwS 3 hta (gS m_559 m_560 m_4 m_561) rfl rfl rfl (by decide +kernel) ⟨Nat.le_of_ble_eq_true rfl, Nat.le_of_ble_eq_true rfl⟩) (rd_S xT_ok trivial (hK.sub [] rfl) va_P_nil) rfl rfl hl.1 rfl (lv_room (Nat.le_of_ble_eq_true rfl)) dM_factorOf_11 ⟨Nat.zero_le _, Nat.zero_le _⟩) ?_
    refine W.eq (g2 := F0 m 14 ls [.int (bI (isInB x.toInt64 0 (((nI M.ro) - (nI 1)).toInt64))), .ref (mo 0)]) rfl ?_
    refine lb_ne (tgt := 21) hx hb dM_factorOf_14 (by decide) (fun hb9 => ?_) (fun hb9 => ?_)
    · exact absurd (hi9n.symm.trans hb9) (by decide)
    · refine lv_iconst (v := nI 1) hx hb dM_factorOf_17 (by decide) ?_
      refine lv_goto (tgt := 46) hx hb dM_factorOf_18 (by decide) ?_
      refine va_put (D := (dC, dI)) (ci := 2) (v := .int (nI 1)) (ty := .int) (C := RM) (T := FM) (N := 19) hx hb hta iM tM tM_ok nM hown hK hP hD hS 0 rfl rfl 0 (by decide) (hta _ m_492) (fun _ h9 => h9) rfl (by decide +kernel) rfl rfl (Nat.le_of_ble_eq_true rfl) dM_factorOf_46 (fun H locs hP hD hS => ?_)
      have hP : va_P (dC, dI) vwCl (MW mo km (mTh M 1)) H := hP
      have hD : va_D A (MW mo km (mTh M 1)) := hD
      refine lv_aload_n hx hb dM_factorOf_49 rfl (lv_at hl 0 rfl) ?_
      refine va_get (D := (dC, dI)) (ci := 2) (v := .int (nI 1)) (C := RM) (T := FM) (N := 19) hx hb hta iM hown hK hP 0 rfl rfl 0 (by decide) (hta _ m_492) (fun _ h9 => h9) rfl dM_factorOf_50 ?_
      refine lz_le (tgt := 58) hx hb dM_factorOf_53 (by decide) (fun c_1 => ?_) (fun c_1 => ?_)
      · exact absurd c_1 (by decide)
      · refine lv_lconst (v := 0) hx hb dM_factorOf_56 (by decide) ?_
        exact W.lret (v := 0) hx hb hr (fun t ht hW => ⟨congrArg (fun z => Outcome.returned (some (.long z))) (by first | (simp only [foM, hi9]; done) | (simp only [foM, hi9]; rfl)), by rw [ht]; exact (by first | (simp only [foM, hi9]; exact hP)), hS.F ht⟩) hS.2.2 dM_factorOf_57
  · have hi9y := idx_yes hro hi9
    obtain ⟨hi9l, hi9e⟩ := idx_some hi9
    rw [hi9e] at hi9y hl
    have hl : lv_has ls 6 [(0, .ref (mo 0)), (1, .int (nI r)), (2, .int pt)] := hl
    refine lv_aload_n hx hb dM_factorOf_0 rfl (lv_at hl 0 rfl) ?_
    refine lv_iload_n hx hb dM_factorOf_1 rfl (lv_at hl 1 rfl) ?_
    refine lv_i2l (v := (nI r).toInt64) hx hb dM_factorOf_2 rfl ?_
    refine lv_lconst (v := 0) hx hb dM_factorOf_3 (by decide) ?_
    refine lv_aload_n hx hb dM_factorOf_4 rfl (lv_at hl 0 rfl) ?_
    refine va_get (D := (dC, dI)) (ci := 2) (v := .int (nI M.ro)) (C := RM) (T := FM) (N := 19) hx hb hta iM hown hK hP 0 rfl rfl 4 (by decide) (hta _ m_496) (fun _ h9 => h9) rfl dM_factorOf_5 ?_
    refine lv_iconst (v := nI 1) hx hb dM_factorOf_8 (by decide) ?_
    refine lv_isub hx hb dM_factorOf_9 ?_
    refine lv_i2l (v := ((nI M.ro) - (nI 1)).toInt64) hx hb dM_factorOf_10 rfl ?_
    refine rd_call (va_runS (As := [.long ((nI r).toInt64), .long 0, .long (((nI M.ro) - (nI 1)).toInt64)]) (rest := [.ref (mo 0)]) ⟨hx, hb, hml, hown, hta⟩ (c_M_isIn l dC dI mo km ((nI r).toInt64) 0 (((nI M.ro) - (nI 1)).toInt64)) (cwS 3 hta (gS m_559 m_560 m_4 m_561) rfl rfl rfl (by decide +kernel) ⟨Nat.le_of_ble_eq_true rfl, Nat.le_of_ble_eq_true rfl⟩) (rd_S xT_ok trivial (hK.sub [] rfl) va_P_nil) rfl rfl hl.1 rfl (lv_room (Nat.le_of_ble_eq_true rfl)) dM_factorOf_11 ⟨Nat.zero_le _, Nat.zero_le _⟩) ?_
    refine W.eq (g2 := F0 m 14 ls [.int (bI (isInB ((nI r).toInt64) 0 (((nI M.ro) - (nI 1)).toInt64))), .ref (mo 0)]) rfl ?_
    refine lb_ne (tgt := 21) hx hb dM_factorOf_14 (by decide) (fun hb9 => ?_) (fun hb9 => ?_)
    · refine lv_aload_n hx hb dM_factorOf_21 rfl (lv_at hl 0 rfl) ?_
      refine va_get (D := (dC, dI)) (ci := 2) (v := .int (enc M.ag)) (C := RM) (T := FM) (N := 19) hx hb hta iM hown hK hP 0 rfl rfl 18 (by decide) (hta _ m_510) (fun _ h9 => h9) rfl dM_factorOf_22 ?_
      refine lv_iconst (v := (-1)) hx hb dM_factorOf_25 (by decide) ?_
      refine en_ne (o := M.ag) (tgt := 33) hx hb dM_factorOf_26 (by decide) (fun j h => by have := hag _ h; omega) (fun g hg => ?_) (fun hg => ?_)
      · have hg9 := hag _ hg
        refine lv_aload_n hx hb dM_factorOf_33 rfl (lv_at hl 0 rfl) ?_
        refine lv_iload_n hx hb dM_factorOf_34 rfl (lv_at hl 2 rfl) ?_
        refine rd_call (va_runV (As := [.int pt]) (rest := [.ref (mo 0)]) ⟨hx, hb, hml, hown, hta⟩ (c_M_isPart l dC dI mo km M pt) (cwV 1 hta (gV m_628 m_630 mp_48 m_4 m_631) rfl rfl rfl (by decide +kernel) ⟨Nat.le_of_ble_eq_true rfl, Nat.le_of_ble_eq_true rfl⟩) (rd_V xT_ok trivial hK hP (ci := 2) (q0 := 0) rfl rfl) rfl rfl hl.1 rfl (lv_room (Nat.le_of_ble_eq_true rfl)) dM_factorOf_35 ⟨Nat.zero_le _, Nat.zero_le _⟩) ?_
        refine W.eq (g2 := F0 m 38 ls [.int (bI (paB pt)), .ref (mo 0)]) rfl ?_
        refine lb_ne (tgt := 45) hx hb dM_factorOf_38 (by decide) (fun h1 => ?_) (fun h1 => ?_)
        · refine lv_iconst (v := nI 0) hx hb dM_factorOf_45 (by decide) ?_
          refine va_put (D := (dC, dI)) (ci := 2) (v := .int (nI 0)) (ty := .int) (C := RM) (T := FM) (N := 19) hx hb hta iM tM tM_ok nM hown hK hP hD hS 0 rfl rfl 0 (by decide) (hta _ m_492) (fun _ h9 => h9) rfl (by decide +kernel) rfl rfl (Nat.le_of_ble_eq_true rfl) dM_factorOf_46 (fun H locs hP hD hS => ?_)
          have hP : va_P (dC, dI) vwCl (MW mo km (mTh M 0)) H := hP
          have hD : va_D A (MW mo km (mTh M 0)) := hD
          refine lv_aload_n hx hb dM_factorOf_49 rfl (lv_at hl 0 rfl) ?_
          refine va_get (D := (dC, dI)) (ci := 2) (v := .int (nI 0)) (C := RM) (T := FM) (N := 19) hx hb hta iM hown hK hP 0 rfl rfl 0 (by decide) (hta _ m_492) (fun _ h9 => h9) rfl dM_factorOf_50 ?_
          refine lz_le (tgt := 58) hx hb dM_factorOf_53 (by decide) (fun c_2 => ?_) (fun c_2 => ?_)
          · have join123 : ∀ (ls : Array Slot), lv_has ls 6 [(0, .ref (mo 0)), (1, .int (nI r)), (2, .int pt)] → W p l e (headSpec wM_factorOf ({ frames := 2, cells := 0, slots := 0, locals := 50 })).room s m ([.ref (mo 0), .int x, .int pt] : List Value).toArray below meth c H locs 0 0 (MQ below (wQ (some (.long ((foM M x pt).1))) (dC, dI) vwCl (MW mo km ((foM M x pt).2)) A) ([.ref (mo 0), .int x, .int pt] : List Value).toArray s 0 0 A) (F0 m 123 ls [.long (foR M g r)]) := by
              intro ls hl
              refine lv_lstore (lv' := [(4, .long (foR M g r)), (0, .ref (mo 0)), (1, .int (nI r)), (2, .int pt)]) hx hb dM_factorOf_123 hl (by decide) rfl (fun ls hl => ?_)
              refine lv_aload_n hx hb dM_factorOf_125 rfl (lv_at hl 1 rfl) ?_
              refine lv_lload hx hb dM_factorOf_126 (lv_at hl 0 rfl) ?_
              refine lv_iload_n hx hb dM_factorOf_128 rfl (lv_at hl 3 rfl) ?_
              refine rd_call (va_runV (As := [.long (foR M g r), .int pt]) (rest := []) ⟨hx, hb, hml, hown, hta⟩ (c_M_fraction l dC dI mo km (mTh M 0) (foR M g r) pt (hz _).1 (hz _).2) (cwV 2 hta (gV m_632 m_634 mp_49 m_4 m_635) rfl rfl rfl (by decide +kernel) ⟨Nat.le_of_ble_eq_true rfl, Nat.le_of_ble_eq_true rfl⟩) (rd_V xT_ok trivial hK hP (ci := 2) (q0 := 0) rfl rfl) rfl rfl hl.1 rfl (lv_room (Nat.le_of_ble_eq_true rfl)) dM_factorOf_129 ⟨Nat.zero_le _, Nat.zero_le _⟩) ?_
              refine W.eq (g2 := F0 m 132 ls [.long (frR (foR M g r) M.dn pt)]) rfl ?_
              exact W.lret (v := frR (foR M g r) M.dn pt) hx hb hr (fun t ht hW => ⟨congrArg (fun z => Outcome.returned (some (.long z))) (by first | (simp only [foM, hi9, hg, h1, if_true]; done) | (simp only [foM, hi9, hg, h1, if_true]; rfl)), by rw [ht]; exact (by first | (simp only [foM, hi9, hg, h1, if_true]; exact hP)), hS.F ht⟩) hS.2.2 dM_factorOf_132
            refine lv_aload_n hx hb dM_factorOf_58 rfl (lv_at hl 0 rfl) ?_
            refine va_get (D := (dC, dI)) (ci := 2) (v := .ref (mo 6)) (C := RM) (T := FM) (N := 19) hx hb hta iM hown hK hP 0 rfl rfl 9 (by decide) (hta _ m_501) (fun _ h9 => h9) rfl dM_factorOf_59 ?_
            refine lv_iload_n hx hb dM_factorOf_62 rfl (lv_at hl 1 rfl) ?_
            refine na_iald hx hb hK hP 6 5 rfl rfl (i := r) (by omega) (by decide) dM_factorOf_63 ?_
            refine W.eq (g2 := F0 m 64 ls [.int (enc (M.li r))]) rfl ?_
            refine lv_istore_n (lv' := [(3, .int (enc (M.li r))), (0, .ref (mo 0)), (1, .int (nI r)), (2, .int pt)]) hx hb dM_factorOf_64 rfl hl (by decide) rfl (fun ls hl => ?_)
            refine lv_iload_n hx hb dM_factorOf_65 rfl (lv_at hl 0 rfl) ?_
            refine lv_iconst (v := (-1)) hx hb dM_factorOf_66 (by decide) ?_
            refine en_ne (o := (M.li r)) (tgt := 74) hx hb dM_factorOf_67 (by decide) (fun j h => by have := hli _ _ h; omega) (fun q ho => ?_) (fun ho => ?_)
            · rw [ho] at hl
              have hl : lv_has ls 6 [(3, .int (nI q)), (0, .ref (mo 0)), (1, .int (nI r)), (2, .int pt)] := hl
              have hq9 := hli _ _ ho
              refine lv_aload_n hx hb dM_factorOf_74 rfl (lv_at hl 1 rfl) ?_
              refine va_get (D := (dC, dI)) (ci := 2) (v := .ref (mo 2)) (C := RM) (T := FM) (N := 19) hx hb hta iM hown hK hP 0 rfl rfl 5 (by decide) (hta _ m_497) (fun _ h9 => h9) rfl dM_factorOf_75 ?_
              refine lv_iload_n hx hb dM_factorOf_78 rfl (lv_at hl 2 rfl) ?_
              refine na_iald hx hb hK hP 2 1 rfl rfl (i := r) (by omega) (by decide) dM_factorOf_79 ?_
              refine lv_iconst (v := 1) hx hb dM_factorOf_80 (by decide) ?_
              refine lv_icmp_ne (tgt := 93) hx hb dM_factorOf_81 (by decide) (fun h2 => ?_) (fun h2 => ?_)
              · have h2 : ¬ M.ki r = 1 := h2
                refine lv_aload_n hx hb dM_factorOf_93 rfl (lv_at hl 1 rfl) ?_
                refine va_get (D := (dC, dI)) (ci := 2) (v := .ref (mo 2)) (C := RM) (T := FM) (N := 19) hx hb hta iM hown hK hP 0 rfl rfl 5 (by decide) (hta _ m_497) (fun _ h9 => h9) rfl dM_factorOf_94 ?_
                refine lv_iload_n hx hb dM_factorOf_97 rfl (lv_at hl 2 rfl) ?_
                refine na_iald hx hb hK hP 2 1 rfl rfl (i := r) (by omega) (by decide) dM_factorOf_98 ?_
                refine lv_if_ne (tgt := 110) hx hb dM_factorOf_99 (by decide) (fun h3 => ?_) (fun h3 => ?_)
                · have h3 : ¬ M.ki r = 0 := h3
                  refine lv_aload_n hx hb dM_factorOf_110 rfl (lv_at hl 1 rfl) ?_
                  refine lv_iload_n hx hb dM_factorOf_111 rfl (lv_at hl 0 rfl) ?_
                  refine rd_call (va_runV (As := [.int (nI q)]) (rest := []) ⟨hx, hb, hml, hown, hta⟩ (c_M_weight l dC dI mo km (mTh M 0) q g hpl (by omega) hg hg9) (cwV 1 hta (gV m_659 m_661 mp_52 m_4 m_662) rfl rfl rfl (by decide +kernel) ⟨Nat.le_of_ble_eq_true rfl, Nat.le_of_ble_eq_true rfl⟩) (rd_V xT_ok trivial hK hP (ci := 2) (q0 := 0) rfl rfl) rfl rfl hl.1 rfl (lv_room (Nat.le_of_ble_eq_true rfl)) dM_factorOf_112 ⟨Nat.zero_le _, Nat.zero_le _⟩) ?_
                  refine W.eq (g2 := F0 m 115 ls [.long (weR (mTh M 0) g q)]) rfl ?_
                  refine lv_aload_n hx hb dM_factorOf_115 rfl (lv_at hl 1 rfl) ?_
                  refine lv_iload_n hx hb dM_factorOf_116 rfl (lv_at hl 0 rfl) ?_
                  refine lv_iconst (v := nI 1) hx hb dM_factorOf_117 (by decide) ?_
                  refine lv_iadd hx hb dM_factorOf_118 ?_
                  refine st_i (y := nI (q + 1)) (nI_add _ _) ?_
                  refine rd_call (va_runV (As := [.int (nI (q + 1))]) (rest := [.long (weR (mTh M 0) g q)]) ⟨hx, hb, hml, hown, hta⟩ (c_M_weight l dC dI mo km (mTh M 0) (q + 1) g hpl (by omega) hg hg9) (cwV 1 hta (gV m_659 m_661 mp_52 m_4 m_662) rfl rfl rfl (by decide +kernel) ⟨Nat.le_of_ble_eq_true rfl, Nat.le_of_ble_eq_true rfl⟩) (rd_V xT_ok trivial hK hP (ci := 2) (q0 := 0) rfl rfl) rfl rfl hl.1 rfl (lv_room (Nat.le_of_ble_eq_true rfl)) dM_factorOf_119 ⟨Nat.zero_le _, Nat.zero_le _⟩) ?_
                  refine W.eq (g2 := F0 m 122 ls [.long (weR (mTh M 0) g (q + 1)), .long (weR (mTh M 0) g q)]) rfl ?_
                  refine lv_lsub hx hb dM_factorOf_122 ?_
                  refine st_l (y := foR M g r) (by first | (simp only [foR, ho]; done) | (simp only [foR, ho, h2, if_true]; rfl; done) | (simp only [foR, ho, h2, h3, if_true, if_false]; rfl; done)) ?_
                  exact join123 ls (lv_sub hl [1, 2, 3] rfl)
                · have h3 : M.ki r = 0 := h3
                  refine lv_aload_n hx hb dM_factorOf_102 rfl (lv_at hl 1 rfl) ?_
                  refine lv_iload_n hx hb dM_factorOf_103 rfl (lv_at hl 0 rfl) ?_
                  refine rd_call (va_runV (As := [.int (nI q)]) (rest := []) ⟨hx, hb, hml, hown, hta⟩ (c_M_weight l dC dI mo km (mTh M 0) q g hpl (by omega) hg hg9) (cwV 1 hta (gV m_659 m_661 mp_52 m_4 m_662) rfl rfl rfl (by decide +kernel) ⟨Nat.le_of_ble_eq_true rfl, Nat.le_of_ble_eq_true rfl⟩) (rd_V xT_ok trivial hK hP (ci := 2) (q0 := 0) rfl rfl) rfl rfl hl.1 rfl (lv_room (Nat.le_of_ble_eq_true rfl)) dM_factorOf_104 ⟨Nat.zero_le _, Nat.zero_le _⟩) ?_
                  refine W.eq (g2 := F0 m 107 ls [.long (weR (mTh M 0) g q)]) rfl ?_
                  refine lv_goto (tgt := 123) hx hb dM_factorOf_107 (by decide) ?_
                  refine st_l (y := foR M g r) (by first | (simp only [foR, ho]; done) | (simp only [foR, ho, h2, if_true]; rfl; done) | (simp only [foR, ho, h2, h3, if_true, if_false]; rfl; done)) ?_
                  exact join123 ls (lv_sub hl [1, 2, 3] rfl)
              · have h2 : M.ki r = 1 := h2
                refine lv_aload_n hx hb dM_factorOf_84 rfl (lv_at hl 1 rfl) ?_
                refine lv_iload_n hx hb dM_factorOf_85 rfl (lv_at hl 0 rfl) ?_
                refine rd_call (va_runV (As := [.int (nI q)]) (rest := []) ⟨hx, hb, hml, hown, hta⟩ (c_M_weight l dC dI mo km (mTh M 0) q g hpl (by omega) hg hg9) (cwV 1 hta (gV m_659 m_661 mp_52 m_4 m_662) rfl rfl rfl (by decide +kernel) ⟨Nat.le_of_ble_eq_true rfl, Nat.le_of_ble_eq_true rfl⟩) (rd_V xT_ok trivial hK hP (ci := 2) (q0 := 0) rfl rfl) rfl rfl hl.1 rfl (lv_room (Nat.le_of_ble_eq_true rfl)) dM_factorOf_86 ⟨Nat.zero_le _, Nat.zero_le _⟩) ?_
                refine W.eq (g2 := F0 m 89 ls [.long (weR (mTh M 0) g q)]) rfl ?_
                refine lv_lneg hx hb dM_factorOf_89 ?_
                refine lv_goto (tgt := 123) hx hb dM_factorOf_90 (by decide) ?_
                refine st_l (y := foR M g r) (by first | (simp only [foR, ho]; done) | (simp only [foR, ho, h2, if_true]; rfl; done) | (simp only [foR, ho, h2, h3, if_true, if_false]; rfl; done)) ?_
                exact join123 ls (lv_sub hl [1, 2, 3] rfl)
            · rw [ho] at hl
              have hl : lv_has ls 6 [(3, .int (-1)), (0, .ref (mo 0)), (1, .int (nI r)), (2, .int pt)] := hl
              refine lv_lconst (v := 0) hx hb dM_factorOf_70 (by decide) ?_
              refine lv_goto (tgt := 123) hx hb dM_factorOf_71 (by decide) ?_
              refine st_l (y := foR M g r) (by first | (simp only [foR, ho]; done) | (simp only [foR, ho, h2, if_true]; rfl; done) | (simp only [foR, ho, h2, h3, if_true, if_false]; rfl; done)) ?_
              exact join123 ls (lv_sub hl [1, 2, 3] rfl)
          · exact absurd c_2 (by decide)
        · refine lv_iconst (v := nI 3) hx hb dM_factorOf_41 (by decide) ?_
          refine lv_goto (tgt := 46) hx hb dM_factorOf_42 (by decide) ?_
          refine va_put (D := (dC, dI)) (ci := 2) (v := .int (nI 3)) (ty := .int) (C := RM) (T := FM) (N := 19) hx hb hta iM tM tM_ok nM hown hK hP hD hS 0 rfl rfl 0 (by decide) (hta _ m_492) (fun _ h9 => h9) rfl (by decide +kernel) rfl rfl (Nat.le_of_ble_eq_true rfl) dM_factorOf_46 (fun H locs hP hD hS => ?_)
          have hP : va_P (dC, dI) vwCl (MW mo km (mTh M 3)) H := hP
          have hD : va_D A (MW mo km (mTh M 3)) := hD
          refine lv_aload_n hx hb dM_factorOf_49 rfl (lv_at hl 0 rfl) ?_
          refine va_get (D := (dC, dI)) (ci := 2) (v := .int (nI 3)) (C := RM) (T := FM) (N := 19) hx hb hta iM hown hK hP 0 rfl rfl 0 (by decide) (hta _ m_492) (fun _ h9 => h9) rfl dM_factorOf_50 ?_
          refine lz_le (tgt := 58) hx hb dM_factorOf_53 (by decide) (fun c_3 => ?_) (fun c_3 => ?_)
          · exact absurd c_3 (by decide)
          · refine lv_lconst (v := 0) hx hb dM_factorOf_56 (by decide) ?_
            exact W.lret (v := 0) hx hb hr (fun t ht hW => ⟨congrArg (fun z => Outcome.returned (some (.long z))) (by first | (simp only [foM, hi9, hg]; done) | (simp only [foM, hi9, hg, h1, Bool.false_eq_true, if_false]; done) | (simp only [foM, hi9, hg]; rfl) | (simp only [foM, hi9, hg, h1, Bool.false_eq_true, if_false]; rfl)), by rw [ht]; exact (by first | (simp only [foM, hi9, hg]; exact hP) | (simp only [foM, hi9, hg, h1, Bool.false_eq_true, if_false]; exact hP)), hS.F ht⟩) hS.2.2 dM_factorOf_57
      · refine lv_iconst (v := nI 2) hx hb dM_factorOf_29 (by decide) ?_
        refine lv_goto (tgt := 46) hx hb dM_factorOf_30 (by decide) ?_
        refine va_put (D := (dC, dI)) (ci := 2) (v := .int (nI 2)) (ty := .int) (C := RM) (T := FM) (N := 19) hx hb hta iM tM tM_ok nM hown hK hP hD hS 0 rfl rfl 0 (by decide) (hta _ m_492) (fun _ h9 => h9) rfl (by decide +kernel) rfl rfl (Nat.le_of_ble_eq_true rfl) dM_factorOf_46 (fun H locs hP hD hS => ?_)
        have hP : va_P (dC, dI) vwCl (MW mo km (mTh M 2)) H := hP
        have hD : va_D A (MW mo km (mTh M 2)) := hD
        refine lv_aload_n hx hb dM_factorOf_49 rfl (lv_at hl 0 rfl) ?_
        refine va_get (D := (dC, dI)) (ci := 2) (v := .int (nI 2)) (C := RM) (T := FM) (N := 19) hx hb hta iM hown hK hP 0 rfl rfl 0 (by decide) (hta _ m_492) (fun _ h9 => h9) rfl dM_factorOf_50 ?_
        refine lz_le (tgt := 58) hx hb dM_factorOf_53 (by decide) (fun c_4 => ?_) (fun c_4 => ?_)
        · exact absurd c_4 (by decide)
        · refine lv_lconst (v := 0) hx hb dM_factorOf_56 (by decide) ?_
          exact W.lret (v := 0) hx hb hr (fun t ht hW => ⟨congrArg (fun z => Outcome.returned (some (.long z))) (by first | (simp only [foM, hi9, hg]; done) | (simp only [foM, hi9, hg, h1, Bool.false_eq_true, if_false]; done) | (simp only [foM, hi9, hg]; rfl) | (simp only [foM, hi9, hg, h1, Bool.false_eq_true, if_false]; rfl)), by rw [ht]; exact (by first | (simp only [foM, hi9, hg]; exact hP) | (simp only [foM, hi9, hg, h1, Bool.false_eq_true, if_false]; exact hP)), hS.F ht⟩) hS.2.2 dM_factorOf_57
    · exact absurd (hi9y.symm.trans hb9) (by decide)

set_option maxHeartbeats 4000000 in
set_option maxRecDepth 100000 in
theorem c_M_factor (l : Launch) (dC : Nat → ClassId) (dI : Nat → Nat → Nat) (mo : Nat → Nat) (km : Nat → ClassId) (M : MS) (sz : Nat) (x y v : Int32) (hli : ∀ r v, M.li r = some v → v < 36) (hro : M.ro ≤ 12) (hco : M.co ≤ 12) : Met l yM_factor wM_factor ({ frames := 1, cells := 0, slots := 0, locals := 25 }) (wPc [.ref (mo 0), .int x, .int y, .int v] sz (dC, dI) vwCl (MW mo km M) (MK km) xT) (wQ (some (.int ((faM M x y v).1))) (dC, dI) vwCl (MW mo km ((faM M x y v).2)) (va_A (MW mo km M) sz)) 0 0 (va_A (MW mo km M) sz) := by
  refine Met.ofW (cc := bM_factor) (maxL := 5) (ret := (some .int)) (by decide) rfl ?_
  intro p e s m args below meth c s₁ B hml hv
  obtain ⟨rfl, hsz, hP, hK, hD0, hX⟩ := hv
  have hx := B.exec
  have hb := B.bytes
  have hr := B.returns
  have hts := atoms_spec (ws := wM_factor) B.pre
  have hta : ∀ w ∈ AW, w.before _ s = true := fun w h => hts w (List.mem_cons_of_mem _ h)
  have hown : s.vm.findClass RM = some m.cls := findClass_of_methodNamed B.named
  have hlocks := B.notSynchronized
  subst hsz
  have hD := hD0.self (sz := s.heap.size)
  generalize hAe : va_A (MW mo km M) s.heap.size = A at hD ⊢
  have hA : ∀ q : Nat, s.heap.size ≤ q → A q := fun q h => by rw [← hAe]; exact Or.inr h
  have hS : va_S A s.heap s.heap [] := va_S.rf
  have hl := lv_entry ([.ref (mo 0), .int x, .int y, .int v]) (n := 5) (Nat.le_of_ble_eq_true rfl)
  rw [lg_entry_eq]
  generalize (lg_sl ([.ref (mo 0), .int x, .int y, .int v]) ++ List.replicate (5 - (lg_sl ([.ref (mo 0), .int x, .int y, .int v])).length) Slot.unset).toArray = ls at hl ⊢
  have hl : lv_has ls 5 [(0, .ref (mo 0)), (1, .int x), (2, .int y), (3, .int v)] := hl
  rcases hi9 : idx M.ro x with _ | r
  · have hi9n := idx_no hro hi9
    refine lv_aload_n hx hb dM_factor_0 rfl (lv_at hl 0 rfl) ?_
    refine lv_iload_n hx hb dM_factor_1 rfl (lv_at hl 1 rfl) ?_
    refine lv_i2l (v := x.toInt64) hx hb dM_factor_2 rfl ?_
    refine lv_lconst (v := 0) hx hb dM_factor_3 (by decide) ?_
    refine lv_aload_n hx hb dM_factor_4 rfl (lv_at hl 0 rfl) ?_
    refine va_get (D := (dC, dI)) (ci := 2) (v := .int (nI M.ro)) (C := RM) (T := FM) (N := 19) hx hb hta iM hown hK hP 0 rfl rfl 4 (by decide) (hta _ m_496) (fun _ h9 => h9) rfl dM_factor_5 ?_
    refine lv_iconst (v := nI 1) hx hb dM_factor_8 (by decide) ?_
    refine lv_isub hx hb dM_factor_9 ?_
    refine lv_i2l (v := ((nI M.ro) - (nI 1)).toInt64) hx hb dM_factor_10 rfl ?_
    refine rd_call (va_runS (As := [.long x.toInt64, .long 0, .long (((nI M.ro) - (nI 1)).toInt64)]) (rest := [.ref (mo 0)]) ⟨hx, hb, hml, hown, hta⟩ (c_M_isIn l dC dI mo km x.toInt64 0 (((nI M.ro) - (nI 1)).toInt64)) (cwS 3 hta (gS m_559 m_560 m_4 m_561) rfl rfl rfl (by decide +kernel) ⟨Nat.le_of_ble_eq_true rfl, Nat.le_of_ble_eq_true rfl⟩) (rd_S xT_ok trivial (hK.sub [] rfl) va_P_nil) rfl rfl hl.1 rfl (lv_room (Nat.le_of_ble_eq_true rfl)) dM_factor_11 ⟨Nat.zero_le _, Nat.zero_le _⟩) ?_
    refine W.eq (g2 := F0 m 14 ls [.int (bI (isInB x.toInt64 0 (((nI M.ro) - (nI 1)).toInt64))), .ref (mo 0)]) rfl ?_
    refine lb_eq (tgt := 33) hx hb dM_factor_14 (by decide) (fun hb9 => ?_) (fun hb9 => ?_)
    · refine lv_iconst (v := nI 1) hx hb dM_factor_33 (by decide) ?_
      refine lv_goto (tgt := 70) hx hb dM_factor_34 (by decide) ?_
      refine va_put (D := (dC, dI)) (ci := 2) (v := .int (nI 1)) (ty := .int) (C := RM) (T := FM) (N := 19) hx hb hta iM tM tM_ok nM hown hK hP hD hS 0 rfl rfl 0 (by decide) (hta _ m_492) (fun _ h9 => h9) rfl (by decide +kernel) rfl rfl (Nat.le_of_ble_eq_true rfl) dM_factor_70 (fun H locs hP hD hS => ?_)
      have hP : va_P (dC, dI) vwCl (MW mo km (mTh M 1)) H := hP
      have hD : va_D A (MW mo km (mTh M 1)) := hD
      refine lv_aload_n hx hb dM_factor_73 rfl (lv_at hl 0 rfl) ?_
      refine va_get (D := (dC, dI)) (ci := 2) (v := .int (nI 1)) (C := RM) (T := FM) (N := 19) hx hb hta iM hown hK hP 0 rfl rfl 0 (by decide) (hta _ m_492) (fun _ h9 => h9) rfl dM_factor_74 ?_
      refine lz_le (tgt := 82) hx hb dM_factor_77 (by decide) (fun c_1 => ?_) (fun c_1 => ?_)
      · exact absurd c_1 (by decide)
      · refine lv_iconst (v := nI 0) hx hb dM_factor_80 (by decide) ?_
        exact W.iret (v := nI 0) hx hb hr (fun t ht hW => ⟨congrArg (fun z => Outcome.returned (some (.int z))) (by first | (simp only [faM, hi9]; done) | (simp only [faM, hi9]; rfl)), by rw [ht]; exact (by first | (simp only [faM, hi9]; exact hP)), hS.F ht⟩) hS.2.2 dM_factor_81
    · exact absurd (hi9n.symm.trans hb9) (by decide)
  · have hi9y := idx_yes hro hi9
    obtain ⟨hi9l, hi9e⟩ := idx_some hi9
    rw [hi9e] at hi9y hl
    have hl : lv_has ls 5 [(0, .ref (mo 0)), (1, .int (nI r)), (2, .int y), (3, .int v)] := hl
    rcases hj : idx M.co y with _ | j
    · have hjn := idx_no hco hj
      refine lv_aload_n hx hb dM_factor_0 rfl (lv_at hl 0 rfl) ?_
      refine lv_iload_n hx hb dM_factor_1 rfl (lv_at hl 1 rfl) ?_
      refine lv_i2l (v := (nI r).toInt64) hx hb dM_factor_2 rfl ?_
      refine lv_lconst (v := 0) hx hb dM_factor_3 (by decide) ?_
      refine lv_aload_n hx hb dM_factor_4 rfl (lv_at hl 0 rfl) ?_
      refine va_get (D := (dC, dI)) (ci := 2) (v := .int (nI M.ro)) (C := RM) (T := FM) (N := 19) hx hb hta iM hown hK hP 0 rfl rfl 4 (by decide) (hta _ m_496) (fun _ h9 => h9) rfl dM_factor_5 ?_
      refine lv_iconst (v := nI 1) hx hb dM_factor_8 (by decide) ?_
      refine lv_isub hx hb dM_factor_9 ?_
      refine lv_i2l (v := ((nI M.ro) - (nI 1)).toInt64) hx hb dM_factor_10 rfl ?_
      refine rd_call (va_runS (As := [.long ((nI r).toInt64), .long 0, .long (((nI M.ro) - (nI 1)).toInt64)]) (rest := [.ref (mo 0)]) ⟨hx, hb, hml, hown, hta⟩ (c_M_isIn l dC dI mo km ((nI r).toInt64) 0 (((nI M.ro) - (nI 1)).toInt64)) (cwS 3 hta (gS m_559 m_560 m_4 m_561) rfl rfl rfl (by decide +kernel) ⟨Nat.le_of_ble_eq_true rfl, Nat.le_of_ble_eq_true rfl⟩) (rd_S xT_ok trivial (hK.sub [] rfl) va_P_nil) rfl rfl hl.1 rfl (lv_room (Nat.le_of_ble_eq_true rfl)) dM_factor_11 ⟨Nat.zero_le _, Nat.zero_le _⟩) ?_
      refine W.eq (g2 := F0 m 14 ls [.int (bI (isInB ((nI r).toInt64) 0 (((nI M.ro) - (nI 1)).toInt64))), .ref (mo 0)]) rfl ?_
      refine lb_eq (tgt := 33) hx hb dM_factor_14 (by decide) (fun hb9 => ?_) (fun hb9 => ?_)
      · exact absurd (hi9y.symm.trans hb9) (by decide)
      · refine lv_iload_n hx hb dM_factor_17 rfl (lv_at hl 2 rfl) ?_
        refine lv_i2l (v := y.toInt64) hx hb dM_factor_18 rfl ?_
        refine lv_lconst (v := 0) hx hb dM_factor_19 (by decide) ?_
        refine lv_aload_n hx hb dM_factor_20 rfl (lv_at hl 0 rfl) ?_
        refine va_get (D := (dC, dI)) (ci := 2) (v := .int (nI M.co)) (C := RM) (T := FM) (N := 19) hx hb hta iM hown hK hP 0 rfl rfl 2 (by decide) (hta _ m_494) (fun _ h9 => h9) rfl dM_factor_21 ?_
        refine lv_iconst (v := nI 1) hx hb dM_factor_24 (by decide) ?_
        refine lv_isub hx hb dM_factor_25 ?_
        refine lv_i2l (v := ((nI M.co) - (nI 1)).toInt64) hx hb dM_factor_26 rfl ?_
        refine rd_call (va_runS (As := [.long y.toInt64, .long 0, .long (((nI M.co) - (nI 1)).toInt64)]) (rest := [.ref (mo 0)]) ⟨hx, hb, hml, hown, hta⟩ (c_M_isIn l dC dI mo km y.toInt64 0 (((nI M.co) - (nI 1)).toInt64)) (cwS 3 hta (gS m_559 m_560 m_4 m_561) rfl rfl rfl (by decide +kernel) ⟨Nat.le_of_ble_eq_true rfl, Nat.le_of_ble_eq_true rfl⟩) (rd_S xT_ok trivial (hK.sub [] rfl) va_P_nil) rfl rfl hl.1 rfl (lv_room (Nat.le_of_ble_eq_true rfl)) dM_factor_27 ⟨Nat.zero_le _, Nat.zero_le _⟩) ?_
        refine W.eq (g2 := F0 m 30 ls [.int (bI (isInB y.toInt64 0 (((nI M.co) - (nI 1)).toInt64))), .ref (mo 0)]) rfl ?_
        refine lb_ne (tgt := 37) hx hb dM_factor_30 (by decide) (fun hb9 => ?_) (fun hb9 => ?_)
        · exact absurd (hjn.symm.trans hb9) (by decide)
        · refine lv_iconst (v := nI 1) hx hb dM_factor_33 (by decide) ?_
          refine lv_goto (tgt := 70) hx hb dM_factor_34 (by decide) ?_
          refine va_put (D := (dC, dI)) (ci := 2) (v := .int (nI 1)) (ty := .int) (C := RM) (T := FM) (N := 19) hx hb hta iM tM tM_ok nM hown hK hP hD hS 0 rfl rfl 0 (by decide) (hta _ m_492) (fun _ h9 => h9) rfl (by decide +kernel) rfl rfl (Nat.le_of_ble_eq_true rfl) dM_factor_70 (fun H locs hP hD hS => ?_)
          have hP : va_P (dC, dI) vwCl (MW mo km (mTh M 1)) H := hP
          have hD : va_D A (MW mo km (mTh M 1)) := hD
          refine lv_aload_n hx hb dM_factor_73 rfl (lv_at hl 0 rfl) ?_
          refine va_get (D := (dC, dI)) (ci := 2) (v := .int (nI 1)) (C := RM) (T := FM) (N := 19) hx hb hta iM hown hK hP 0 rfl rfl 0 (by decide) (hta _ m_492) (fun _ h9 => h9) rfl dM_factor_74 ?_
          refine lz_le (tgt := 82) hx hb dM_factor_77 (by decide) (fun c_2 => ?_) (fun c_2 => ?_)
          · exact absurd c_2 (by decide)
          · refine lv_iconst (v := nI 0) hx hb dM_factor_80 (by decide) ?_
            exact W.iret (v := nI 0) hx hb hr (fun t ht hW => ⟨congrArg (fun z => Outcome.returned (some (.int z))) (by first | (simp only [faM, hi9, hj]; done) | (simp only [faM, hi9, hj]; rfl)), by rw [ht]; exact (by first | (simp only [faM, hi9, hj]; exact hP)), hS.F ht⟩) hS.2.2 dM_factor_81
    · have hjy := idx_yes hco hj
      obtain ⟨hjl, hje⟩ := idx_some hj
      rw [hje] at hjy hl
      have hl : lv_has ls 5 [(0, .ref (mo 0)), (1, .int (nI r)), (2, .int (nI j)), (3, .int v)] := hl
      refine lv_aload_n hx hb dM_factor_0 rfl (lv_at hl 0 rfl) ?_
      refine lv_iload_n hx hb dM_factor_1 rfl (lv_at hl 1 rfl) ?_
      refine lv_i2l (v := (nI r).toInt64) hx hb dM_factor_2 rfl ?_
      refine lv_lconst (v := 0) hx hb dM_factor_3 (by decide) ?_
      refine lv_aload_n hx hb dM_factor_4 rfl (lv_at hl 0 rfl) ?_
      refine va_get (D := (dC, dI)) (ci := 2) (v := .int (nI M.ro)) (C := RM) (T := FM) (N := 19) hx hb hta iM hown hK hP 0 rfl rfl 4 (by decide) (hta _ m_496) (fun _ h9 => h9) rfl dM_factor_5 ?_
      refine lv_iconst (v := nI 1) hx hb dM_factor_8 (by decide) ?_
      refine lv_isub hx hb dM_factor_9 ?_
      refine lv_i2l (v := ((nI M.ro) - (nI 1)).toInt64) hx hb dM_factor_10 rfl ?_
      refine rd_call (va_runS (As := [.long ((nI r).toInt64), .long 0, .long (((nI M.ro) - (nI 1)).toInt64)]) (rest := [.ref (mo 0)]) ⟨hx, hb, hml, hown, hta⟩ (c_M_isIn l dC dI mo km ((nI r).toInt64) 0 (((nI M.ro) - (nI 1)).toInt64)) (cwS 3 hta (gS m_559 m_560 m_4 m_561) rfl rfl rfl (by decide +kernel) ⟨Nat.le_of_ble_eq_true rfl, Nat.le_of_ble_eq_true rfl⟩) (rd_S xT_ok trivial (hK.sub [] rfl) va_P_nil) rfl rfl hl.1 rfl (lv_room (Nat.le_of_ble_eq_true rfl)) dM_factor_11 ⟨Nat.zero_le _, Nat.zero_le _⟩) ?_
      refine W.eq (g2 := F0 m 14 ls [.int (bI (isInB ((nI r).toInt64) 0 (((nI M.ro) - (nI 1)).toInt64))), .ref (mo 0)]) rfl ?_
      refine lb_eq (tgt := 33) hx hb dM_factor_14 (by decide) (fun hb9 => ?_) (fun hb9 => ?_)
      · exact absurd (hi9y.symm.trans hb9) (by decide)
      · refine lv_iload_n hx hb dM_factor_17 rfl (lv_at hl 2 rfl) ?_
        refine lv_i2l (v := (nI j).toInt64) hx hb dM_factor_18 rfl ?_
        refine lv_lconst (v := 0) hx hb dM_factor_19 (by decide) ?_
        refine lv_aload_n hx hb dM_factor_20 rfl (lv_at hl 0 rfl) ?_
        refine va_get (D := (dC, dI)) (ci := 2) (v := .int (nI M.co)) (C := RM) (T := FM) (N := 19) hx hb hta iM hown hK hP 0 rfl rfl 2 (by decide) (hta _ m_494) (fun _ h9 => h9) rfl dM_factor_21 ?_
        refine lv_iconst (v := nI 1) hx hb dM_factor_24 (by decide) ?_
        refine lv_isub hx hb dM_factor_25 ?_
        refine lv_i2l (v := ((nI M.co) - (nI 1)).toInt64) hx hb dM_factor_26 rfl ?_
        refine rd_call (va_runS (As := [.long ((nI j).toInt64), .long 0, .long (((nI M.co) - (nI 1)).toInt64)]) (rest := [.ref (mo 0)]) ⟨hx, hb, hml, hown, hta⟩ (c_M_isIn l dC dI mo km ((nI j).toInt64) 0 (((nI M.co) - (nI 1)).toInt64)) (cwS 3 hta (gS m_559 m_560 m_4 m_561) rfl rfl rfl (by decide +kernel) ⟨Nat.le_of_ble_eq_true rfl, Nat.le_of_ble_eq_true rfl⟩) (rd_S xT_ok trivial (hK.sub [] rfl) va_P_nil) rfl rfl hl.1 rfl (lv_room (Nat.le_of_ble_eq_true rfl)) dM_factor_27 ⟨Nat.zero_le _, Nat.zero_le _⟩) ?_
        refine W.eq (g2 := F0 m 30 ls [.int (bI (isInB ((nI j).toInt64) 0 (((nI M.co) - (nI 1)).toInt64))), .ref (mo 0)]) rfl ?_
        refine lb_ne (tgt := 37) hx hb dM_factor_30 (by decide) (fun hb9 => ?_) (fun hb9 => ?_)
        · refine lv_aload_n hx hb dM_factor_37 rfl (lv_at hl 0 rfl) ?_
          refine va_get (D := (dC, dI)) (ci := 2) (v := .ref (mo 6)) (C := RM) (T := FM) (N := 19) hx hb hta iM hown hK hP 0 rfl rfl 9 (by decide) (hta _ m_501) (fun _ h9 => h9) rfl dM_factor_38 ?_
          refine lv_iload_n hx hb dM_factor_41 rfl (lv_at hl 1 rfl) ?_
          refine na_iald hx hb hK hP 6 5 rfl rfl (i := r) (by omega) (by decide) dM_factor_42 ?_
          refine W.eq (g2 := F0 m 43 ls [.int (enc (M.li r)), .ref (mo 0)]) rfl ?_
          refine lv_iconst (v := (-1)) hx hb dM_factor_43 (by decide) ?_
          refine en_eq (o := (M.li r)) (tgt := 51) hx hb dM_factor_44 (by decide) (fun j h => by have := hli _ _ h; omega) (fun ho => ?_) (fun q ho => ?_)
          · refine lv_iload_n hx hb dM_factor_51 rfl (lv_at hl 3 rfl) ?_
            refine lv_i2l (v := v.toInt64) hx hb dM_factor_52 rfl ?_
            refine lv_ldc2 (v := (-1000)) hx hb hown (hta _ m_577) dM_factor_53 ?_
            refine lv_ldc2 (v := 1000) hx hb hown (hta _ m_558) dM_factor_56 ?_
            refine rd_call (va_runS (As := [.long v.toInt64, .long (-1000), .long 1000]) (rest := [.ref (mo 0)]) ⟨hx, hb, hml, hown, hta⟩ (c_M_isIn l dC dI mo km v.toInt64 (-1000) 1000) (cwS 3 hta (gS m_559 m_560 m_4 m_561) rfl rfl rfl (by decide +kernel) ⟨Nat.le_of_ble_eq_true rfl, Nat.le_of_ble_eq_true rfl⟩) (rd_S xT_ok trivial (hK.sub [] rfl) va_P_nil) rfl rfl hl.1 rfl (lv_room (Nat.le_of_ble_eq_true rfl)) dM_factor_59 ⟨Nat.zero_le _, Nat.zero_le _⟩) ?_
            refine W.eq (g2 := F0 m 62 ls [.int (bI (isInB v.toInt64 (-1000) 1000)), .ref (mo 0)]) rfl ?_
            refine lb_ne (tgt := 69) hx hb dM_factor_62 (by decide) (fun h1 => ?_) (fun h1 => ?_)
            · refine lv_iconst (v := nI 0) hx hb dM_factor_69 (by decide) ?_
              refine va_put (D := (dC, dI)) (ci := 2) (v := .int (nI 0)) (ty := .int) (C := RM) (T := FM) (N := 19) hx hb hta iM tM tM_ok nM hown hK hP hD hS 0 rfl rfl 0 (by decide) (hta _ m_492) (fun _ h9 => h9) rfl (by decide +kernel) rfl rfl (Nat.le_of_ble_eq_true rfl) dM_factor_70 (fun H locs hP hD hS => ?_)
              have hP : va_P (dC, dI) vwCl (MW mo km (mTh M 0)) H := hP
              have hD : va_D A (MW mo km (mTh M 0)) := hD
              refine lv_aload_n hx hb dM_factor_73 rfl (lv_at hl 0 rfl) ?_
              refine va_get (D := (dC, dI)) (ci := 2) (v := .int (nI 0)) (C := RM) (T := FM) (N := 19) hx hb hta iM hown hK hP 0 rfl rfl 0 (by decide) (hta _ m_492) (fun _ h9 => h9) rfl dM_factor_74 ?_
              refine lz_le (tgt := 82) hx hb dM_factor_77 (by decide) (fun c_3 => ?_) (fun c_3 => ?_)
              · refine lv_aload_n hx hb dM_factor_82 rfl (lv_at hl 0 rfl) ?_
                refine va_get (D := (dC, dI)) (ci := 2) (v := .ref (mo 5)) (C := RM) (T := FM) (N := 19) hx hb hta iM hown hK hP 0 rfl rfl 8 (by decide) (hta _ m_500) (fun _ h9 => h9) rfl dM_factor_83 ?_
                refine lv_bipush (v := nI 12) hx hb dM_factor_86 (by decide) ?_
                refine lv_iload_n hx hb dM_factor_88 rfl (lv_at hl 1 rfl) ?_
                refine lv_imul hx hb dM_factor_89 ?_
                refine st_i (y := nI (12 * r)) (pk_mul _ _) ?_
                refine lv_iload_n hx hb dM_factor_90 rfl (lv_at hl 2 rfl) ?_
                refine lv_iadd hx hb dM_factor_91 ?_
                refine st_i (y := nI ((12 * r) + j)) (nI_add _ _) ?_
                refine na_lald hx hb hK hP 5 4 rfl rfl (i := ((12 * r) + j)) (by omega) (by decide) dM_factor_92 ?_
                refine lv_l2i (v := (M.fa ((12 * r) + j)).toInt32) hx hb dM_factor_93 rfl ?_
                refine lv_istore (lv' := [(4, .int ((M.fa ((12 * r) + j)).toInt32)), (0, .ref (mo 0)), (1, .int (nI r)), (2, .int (nI j)), (3, .int v)]) hx hb dM_factor_94 hl (by decide) rfl (fun ls hl => ?_)
                refine lv_aload_n hx hb dM_factor_96 rfl (lv_at hl 1 rfl) ?_
                refine va_get (D := (dC, dI)) (ci := 2) (v := .ref (mo 5)) (C := RM) (T := FM) (N := 19) hx hb hta iM hown hK hP 0 rfl rfl 8 (by decide) (hta _ m_500) (fun _ h9 => h9) rfl dM_factor_97 ?_
                refine lv_bipush (v := nI 12) hx hb dM_factor_100 (by decide) ?_
                refine lv_iload_n hx hb dM_factor_102 rfl (lv_at hl 2 rfl) ?_
                refine lv_imul hx hb dM_factor_103 ?_
                refine st_i (y := nI (12 * r)) (pk_mul _ _) ?_
                refine lv_iload_n hx hb dM_factor_104 rfl (lv_at hl 3 rfl) ?_
                refine lv_iadd hx hb dM_factor_105 ?_
                refine st_i (y := nI ((12 * r) + j)) (nI_add _ _) ?_
                refine lv_iload_n hx hb dM_factor_106 rfl (lv_at hl 4 rfl) ?_
                refine lv_i2l (v := v.toInt64) hx hb dM_factor_107 rfl ?_
                refine na_last hx hb hK hP hD hS 5 4 rfl rfl (i := ((12 * r) + j)) (x := v.toInt64) (by omega) (by decide) dM_factor_108 (fun H locs hP hD hS => ?_)
                have hP : va_P (dC, dI) vwCl (MW mo km (ms 0 M.wk M.co M.cs M.ro M.ki M.wo M.ri (vp_updL M.fa ((12 * r) + j) v.toInt64) M.li M.ln M.hr M.st M.dn M.pl M.ou M.ta M.nx M.ag)) H := hP
                have hD : va_D A (MW mo km (ms 0 M.wk M.co M.cs M.ro M.ki M.wo M.ri (vp_updL M.fa ((12 * r) + j) v.toInt64) M.li M.ln M.hr M.st M.dn M.pl M.ou M.ta M.nx M.ag)) := hD
                refine lv_iload hx hb dM_factor_109 (lv_at hl 0 rfl) ?_
                exact W.iret (v := (M.fa ((12 * r) + j)).toInt32) hx hb hr (fun t ht hW => ⟨congrArg (fun z => Outcome.returned (some (.int z))) (by first | (simp only [faM, hi9, hj, ho, h1, if_true]; done) | (simp only [faM, hi9, hj, ho, h1, if_true]; rfl)), by rw [ht]; exact (by first | (simp only [faM, hi9, hj, ho, h1, if_true]; exact hP)), hS.F ht⟩) hS.2.2 dM_factor_111
              · exact absurd c_3 (by decide)
            · refine lv_iconst (v := nI 3) hx hb dM_factor_65 (by decide) ?_
              refine lv_goto (tgt := 70) hx hb dM_factor_66 (by decide) ?_
              refine va_put (D := (dC, dI)) (ci := 2) (v := .int (nI 3)) (ty := .int) (C := RM) (T := FM) (N := 19) hx hb hta iM tM tM_ok nM hown hK hP hD hS 0 rfl rfl 0 (by decide) (hta _ m_492) (fun _ h9 => h9) rfl (by decide +kernel) rfl rfl (Nat.le_of_ble_eq_true rfl) dM_factor_70 (fun H locs hP hD hS => ?_)
              have hP : va_P (dC, dI) vwCl (MW mo km (mTh M 3)) H := hP
              have hD : va_D A (MW mo km (mTh M 3)) := hD
              refine lv_aload_n hx hb dM_factor_73 rfl (lv_at hl 0 rfl) ?_
              refine va_get (D := (dC, dI)) (ci := 2) (v := .int (nI 3)) (C := RM) (T := FM) (N := 19) hx hb hta iM hown hK hP 0 rfl rfl 0 (by decide) (hta _ m_492) (fun _ h9 => h9) rfl dM_factor_74 ?_
              refine lz_le (tgt := 82) hx hb dM_factor_77 (by decide) (fun c_4 => ?_) (fun c_4 => ?_)
              · exact absurd c_4 (by decide)
              · refine lv_iconst (v := nI 0) hx hb dM_factor_80 (by decide) ?_
                exact W.iret (v := nI 0) hx hb hr (fun t ht hW => ⟨congrArg (fun z => Outcome.returned (some (.int z))) (by first | (simp only [faM, hi9, hj, ho]; done) | (simp only [faM, hi9, hj, ho, h1, Bool.false_eq_true, if_false]; done) | (simp only [faM, hi9, hj, ho]; rfl) | (simp only [faM, hi9, hj, ho, h1, Bool.false_eq_true, if_false]; rfl)), by rw [ht]; exact (by first | (simp only [faM, hi9, hj, ho]; exact hP) | (simp only [faM, hi9, hj, ho, h1, Bool.false_eq_true, if_false]; exact hP)), hS.F ht⟩) hS.2.2 dM_factor_81
          · have hq9 := hli _ _ ho
            refine lv_iconst (v := nI 2) hx hb dM_factor_47 (by decide) ?_
            refine lv_goto (tgt := 70) hx hb dM_factor_48 (by decide) ?_
            refine va_put (D := (dC, dI)) (ci := 2) (v := .int (nI 2)) (ty := .int) (C := RM) (T := FM) (N := 19) hx hb hta iM tM tM_ok nM hown hK hP hD hS 0 rfl rfl 0 (by decide) (hta _ m_492) (fun _ h9 => h9) rfl (by decide +kernel) rfl rfl (Nat.le_of_ble_eq_true rfl) dM_factor_70 (fun H locs hP hD hS => ?_)
            have hP : va_P (dC, dI) vwCl (MW mo km (mTh M 2)) H := hP
            have hD : va_D A (MW mo km (mTh M 2)) := hD
            refine lv_aload_n hx hb dM_factor_73 rfl (lv_at hl 0 rfl) ?_
            refine va_get (D := (dC, dI)) (ci := 2) (v := .int (nI 2)) (C := RM) (T := FM) (N := 19) hx hb hta iM hown hK hP 0 rfl rfl 0 (by decide) (hta _ m_492) (fun _ h9 => h9) rfl dM_factor_74 ?_
            refine lz_le (tgt := 82) hx hb dM_factor_77 (by decide) (fun c_5 => ?_) (fun c_5 => ?_)
            · exact absurd c_5 (by decide)
            · refine lv_iconst (v := nI 0) hx hb dM_factor_80 (by decide) ?_
              exact W.iret (v := nI 0) hx hb hr (fun t ht hW => ⟨congrArg (fun z => Outcome.returned (some (.int z))) (by first | (simp only [faM, hi9, hj, ho]; done) | (simp only [faM, hi9, hj, ho, h1, Bool.false_eq_true, if_false]; done) | (simp only [faM, hi9, hj, ho]; rfl) | (simp only [faM, hi9, hj, ho, h1, Bool.false_eq_true, if_false]; rfl)), by rw [ht]; exact (by first | (simp only [faM, hi9, hj, ho]; exact hP) | (simp only [faM, hi9, hj, ho, h1, Bool.false_eq_true, if_false]; exact hP)), hS.F ht⟩) hS.2.2 dM_factor_81
        · exact absurd (hjy.symm.trans hb9) (by decide)

set_option maxHeartbeats 4000000 in
set_option maxRecDepth 100000 in
theorem c_M_cut (l : Launch) (dC : Nat → ClassId) (dI : Nat → Nat → Nat) (mo : Nat → Nat) (km : Nat → ClassId) (M : MS) (sz : Nat) (x y : Int32) (hro : M.ro ≤ 12) (hco : M.co ≤ 12) : Met l yM_cut wM_cut ({ frames := 1, cells := 0, slots := 0, locals := 25 }) (wPc [.ref (mo 0), .int x, .int y] sz (dC, dI) vwCl (MW mo km M) (MK km) xT) (wQ (some (.int ((cuM M x y).1))) (dC, dI) vwCl (MW mo km ((cuM M x y).2)) (va_A (MW mo km M) sz)) 0 0 (va_A (MW mo km M) sz) := by
  refine Met.ofW (cc := bM_cut) (maxL := 3) (ret := (some .int)) (by decide) rfl ?_
  intro p e s m args below meth c s₁ B hml hv
  obtain ⟨rfl, hsz, hP, hK, hD0, hX⟩ := hv
  have hx := B.exec
  have hb := B.bytes
  have hr := B.returns
  have hts := atoms_spec (ws := wM_cut) B.pre
  have hta : ∀ w ∈ AW, w.before _ s = true := fun w h => hts w (List.mem_cons_of_mem _ h)
  have hown : s.vm.findClass RM = some m.cls := findClass_of_methodNamed B.named
  have hlocks := B.notSynchronized
  subst hsz
  have hD := hD0.self (sz := s.heap.size)
  generalize hAe : va_A (MW mo km M) s.heap.size = A at hD ⊢
  have hA : ∀ q : Nat, s.heap.size ≤ q → A q := fun q h => by rw [← hAe]; exact Or.inr h
  have hS : va_S A s.heap s.heap [] := va_S.rf
  have hl := lv_entry ([.ref (mo 0), .int x, .int y]) (n := 3) (Nat.le_of_ble_eq_true rfl)
  rw [lg_entry_eq]
  generalize (lg_sl ([.ref (mo 0), .int x, .int y]) ++ List.replicate (3 - (lg_sl ([.ref (mo 0), .int x, .int y])).length) Slot.unset).toArray = ls at hl ⊢
  have hl : lv_has ls 3 [(0, .ref (mo 0)), (1, .int x), (2, .int y)] := hl
  rcases hi9 : idx M.co x with _ | i
  · have hi9n := idx_no hco hi9
    refine lv_aload_n hx hb dM_cut_0 rfl (lv_at hl 0 rfl) ?_
    refine lv_iload_n hx hb dM_cut_1 rfl (lv_at hl 1 rfl) ?_
    refine lv_i2l (v := x.toInt64) hx hb dM_cut_2 rfl ?_
    refine lv_lconst (v := 0) hx hb dM_cut_3 (by decide) ?_
    refine lv_aload_n hx hb dM_cut_4 rfl (lv_at hl 0 rfl) ?_
    refine va_get (D := (dC, dI)) (ci := 2) (v := .int (nI M.co)) (C := RM) (T := FM) (N := 19) hx hb hta iM hown hK hP 0 rfl rfl 2 (by decide) (hta _ m_494) (fun _ h9 => h9) rfl dM_cut_5 ?_
    refine lv_iconst (v := nI 1) hx hb dM_cut_8 (by decide) ?_
    refine lv_isub hx hb dM_cut_9 ?_
    refine lv_i2l (v := ((nI M.co) - (nI 1)).toInt64) hx hb dM_cut_10 rfl ?_
    refine rd_call (va_runS (As := [.long x.toInt64, .long 0, .long (((nI M.co) - (nI 1)).toInt64)]) (rest := [.ref (mo 0)]) ⟨hx, hb, hml, hown, hta⟩ (c_M_isIn l dC dI mo km x.toInt64 0 (((nI M.co) - (nI 1)).toInt64)) (cwS 3 hta (gS m_559 m_560 m_4 m_561) rfl rfl rfl (by decide +kernel) ⟨Nat.le_of_ble_eq_true rfl, Nat.le_of_ble_eq_true rfl⟩) (rd_S xT_ok trivial (hK.sub [] rfl) va_P_nil) rfl rfl hl.1 rfl (lv_room (Nat.le_of_ble_eq_true rfl)) dM_cut_11 ⟨Nat.zero_le _, Nat.zero_le _⟩) ?_
    refine W.eq (g2 := F0 m 14 ls [.int (bI (isInB x.toInt64 0 (((nI M.co) - (nI 1)).toInt64))), .ref (mo 0)]) rfl ?_
    refine lb_eq (tgt := 33) hx hb dM_cut_14 (by decide) (fun hb9 => ?_) (fun hb9 => ?_)
    · refine lv_iconst (v := nI 1) hx hb dM_cut_33 (by decide) ?_
      refine lv_goto (tgt := 60) hx hb dM_cut_34 (by decide) ?_
      refine va_put (D := (dC, dI)) (ci := 2) (v := .int (nI 1)) (ty := .int) (C := RM) (T := FM) (N := 19) hx hb hta iM tM tM_ok nM hown hK hP hD hS 0 rfl rfl 0 (by decide) (hta _ m_492) (fun _ h9 => h9) rfl (by decide +kernel) rfl rfl (Nat.le_of_ble_eq_true rfl) dM_cut_60 (fun H locs hP hD hS => ?_)
      have hP : va_P (dC, dI) vwCl (MW mo km (mTh M 1)) H := hP
      have hD : va_D A (MW mo km (mTh M 1)) := hD
      refine lv_aload_n hx hb dM_cut_63 rfl (lv_at hl 0 rfl) ?_
      refine va_get (D := (dC, dI)) (ci := 2) (v := .int (nI 1)) (C := RM) (T := FM) (N := 19) hx hb hta iM hown hK hP 0 rfl rfl 0 (by decide) (hta _ m_492) (fun _ h9 => h9) rfl dM_cut_64 ?_
      refine lz_le (tgt := 72) hx hb dM_cut_67 (by decide) (fun c_1 => ?_) (fun c_1 => ?_)
      · exact absurd c_1 (by decide)
      · refine lv_iconst (v := nI 0) hx hb dM_cut_70 (by decide) ?_
        exact W.iret (v := nI 0) hx hb hr (fun t ht hW => ⟨congrArg (fun z => Outcome.returned (some (.int z))) (by first | (simp only [cuM, hi9]; done) | (simp only [cuM, hi9]; rfl)), by rw [ht]; exact (by first | (simp only [cuM, hi9]; exact hP)), hS.F ht⟩) hS.2.2 dM_cut_71
    · exact absurd (hi9n.symm.trans hb9) (by decide)
  · have hi9y := idx_yes hco hi9
    obtain ⟨hi9l, hi9e⟩ := idx_some hi9
    rw [hi9e] at hi9y hl
    have hl : lv_has ls 3 [(0, .ref (mo 0)), (1, .int (nI i)), (2, .int y)] := hl
    rcases hj : idx M.co y with _ | j
    · have hjn := idx_no hco hj
      refine lv_aload_n hx hb dM_cut_0 rfl (lv_at hl 0 rfl) ?_
      refine lv_iload_n hx hb dM_cut_1 rfl (lv_at hl 1 rfl) ?_
      refine lv_i2l (v := (nI i).toInt64) hx hb dM_cut_2 rfl ?_
      refine lv_lconst (v := 0) hx hb dM_cut_3 (by decide) ?_
      refine lv_aload_n hx hb dM_cut_4 rfl (lv_at hl 0 rfl) ?_
      refine va_get (D := (dC, dI)) (ci := 2) (v := .int (nI M.co)) (C := RM) (T := FM) (N := 19) hx hb hta iM hown hK hP 0 rfl rfl 2 (by decide) (hta _ m_494) (fun _ h9 => h9) rfl dM_cut_5 ?_
      refine lv_iconst (v := nI 1) hx hb dM_cut_8 (by decide) ?_
      refine lv_isub hx hb dM_cut_9 ?_
      refine lv_i2l (v := ((nI M.co) - (nI 1)).toInt64) hx hb dM_cut_10 rfl ?_
      refine rd_call (va_runS (As := [.long ((nI i).toInt64), .long 0, .long (((nI M.co) - (nI 1)).toInt64)]) (rest := [.ref (mo 0)]) ⟨hx, hb, hml, hown, hta⟩ (c_M_isIn l dC dI mo km ((nI i).toInt64) 0 (((nI M.co) - (nI 1)).toInt64)) (cwS 3 hta (gS m_559 m_560 m_4 m_561) rfl rfl rfl (by decide +kernel) ⟨Nat.le_of_ble_eq_true rfl, Nat.le_of_ble_eq_true rfl⟩) (rd_S xT_ok trivial (hK.sub [] rfl) va_P_nil) rfl rfl hl.1 rfl (lv_room (Nat.le_of_ble_eq_true rfl)) dM_cut_11 ⟨Nat.zero_le _, Nat.zero_le _⟩) ?_
      refine W.eq (g2 := F0 m 14 ls [.int (bI (isInB ((nI i).toInt64) 0 (((nI M.co) - (nI 1)).toInt64))), .ref (mo 0)]) rfl ?_
      refine lb_eq (tgt := 33) hx hb dM_cut_14 (by decide) (fun hb9 => ?_) (fun hb9 => ?_)
      · exact absurd (hi9y.symm.trans hb9) (by decide)
      · refine lv_iload_n hx hb dM_cut_17 rfl (lv_at hl 2 rfl) ?_
        refine lv_i2l (v := y.toInt64) hx hb dM_cut_18 rfl ?_
        refine lv_lconst (v := 0) hx hb dM_cut_19 (by decide) ?_
        refine lv_aload_n hx hb dM_cut_20 rfl (lv_at hl 0 rfl) ?_
        refine va_get (D := (dC, dI)) (ci := 2) (v := .int (nI M.co)) (C := RM) (T := FM) (N := 19) hx hb hta iM hown hK hP 0 rfl rfl 2 (by decide) (hta _ m_494) (fun _ h9 => h9) rfl dM_cut_21 ?_
        refine lv_iconst (v := nI 1) hx hb dM_cut_24 (by decide) ?_
        refine lv_isub hx hb dM_cut_25 ?_
        refine lv_i2l (v := ((nI M.co) - (nI 1)).toInt64) hx hb dM_cut_26 rfl ?_
        refine rd_call (va_runS (As := [.long y.toInt64, .long 0, .long (((nI M.co) - (nI 1)).toInt64)]) (rest := [.ref (mo 0)]) ⟨hx, hb, hml, hown, hta⟩ (c_M_isIn l dC dI mo km y.toInt64 0 (((nI M.co) - (nI 1)).toInt64)) (cwS 3 hta (gS m_559 m_560 m_4 m_561) rfl rfl rfl (by decide +kernel) ⟨Nat.le_of_ble_eq_true rfl, Nat.le_of_ble_eq_true rfl⟩) (rd_S xT_ok trivial (hK.sub [] rfl) va_P_nil) rfl rfl hl.1 rfl (lv_room (Nat.le_of_ble_eq_true rfl)) dM_cut_27 ⟨Nat.zero_le _, Nat.zero_le _⟩) ?_
        refine W.eq (g2 := F0 m 30 ls [.int (bI (isInB y.toInt64 0 (((nI M.co) - (nI 1)).toInt64))), .ref (mo 0)]) rfl ?_
        refine lb_ne (tgt := 37) hx hb dM_cut_30 (by decide) (fun hb9 => ?_) (fun hb9 => ?_)
        · exact absurd (hjn.symm.trans hb9) (by decide)
        · refine lv_iconst (v := nI 1) hx hb dM_cut_33 (by decide) ?_
          refine lv_goto (tgt := 60) hx hb dM_cut_34 (by decide) ?_
          refine va_put (D := (dC, dI)) (ci := 2) (v := .int (nI 1)) (ty := .int) (C := RM) (T := FM) (N := 19) hx hb hta iM tM tM_ok nM hown hK hP hD hS 0 rfl rfl 0 (by decide) (hta _ m_492) (fun _ h9 => h9) rfl (by decide +kernel) rfl rfl (Nat.le_of_ble_eq_true rfl) dM_cut_60 (fun H locs hP hD hS => ?_)
          have hP : va_P (dC, dI) vwCl (MW mo km (mTh M 1)) H := hP
          have hD : va_D A (MW mo km (mTh M 1)) := hD
          refine lv_aload_n hx hb dM_cut_63 rfl (lv_at hl 0 rfl) ?_
          refine va_get (D := (dC, dI)) (ci := 2) (v := .int (nI 1)) (C := RM) (T := FM) (N := 19) hx hb hta iM hown hK hP 0 rfl rfl 0 (by decide) (hta _ m_492) (fun _ h9 => h9) rfl dM_cut_64 ?_
          refine lz_le (tgt := 72) hx hb dM_cut_67 (by decide) (fun c_2 => ?_) (fun c_2 => ?_)
          · exact absurd c_2 (by decide)
          · refine lv_iconst (v := nI 0) hx hb dM_cut_70 (by decide) ?_
            exact W.iret (v := nI 0) hx hb hr (fun t ht hW => ⟨congrArg (fun z => Outcome.returned (some (.int z))) (by first | (simp only [cuM, hi9, hj]; done) | (simp only [cuM, hi9, hj]; rfl)), by rw [ht]; exact (by first | (simp only [cuM, hi9, hj]; exact hP)), hS.F ht⟩) hS.2.2 dM_cut_71
    · have hjy := idx_yes hco hj
      obtain ⟨hjl, hje⟩ := idx_some hj
      rw [hje] at hjy hl
      have hl : lv_has ls 3 [(0, .ref (mo 0)), (1, .int (nI i)), (2, .int (nI j))] := hl
      refine lv_aload_n hx hb dM_cut_0 rfl (lv_at hl 0 rfl) ?_
      refine lv_iload_n hx hb dM_cut_1 rfl (lv_at hl 1 rfl) ?_
      refine lv_i2l (v := (nI i).toInt64) hx hb dM_cut_2 rfl ?_
      refine lv_lconst (v := 0) hx hb dM_cut_3 (by decide) ?_
      refine lv_aload_n hx hb dM_cut_4 rfl (lv_at hl 0 rfl) ?_
      refine va_get (D := (dC, dI)) (ci := 2) (v := .int (nI M.co)) (C := RM) (T := FM) (N := 19) hx hb hta iM hown hK hP 0 rfl rfl 2 (by decide) (hta _ m_494) (fun _ h9 => h9) rfl dM_cut_5 ?_
      refine lv_iconst (v := nI 1) hx hb dM_cut_8 (by decide) ?_
      refine lv_isub hx hb dM_cut_9 ?_
      refine lv_i2l (v := ((nI M.co) - (nI 1)).toInt64) hx hb dM_cut_10 rfl ?_
      refine rd_call (va_runS (As := [.long ((nI i).toInt64), .long 0, .long (((nI M.co) - (nI 1)).toInt64)]) (rest := [.ref (mo 0)]) ⟨hx, hb, hml, hown, hta⟩ (c_M_isIn l dC dI mo km ((nI i).toInt64) 0 (((nI M.co) - (nI 1)).toInt64)) (cwS 3 hta (gS m_559 m_560 m_4 m_561) rfl rfl rfl (by decide +kernel) ⟨Nat.le_of_ble_eq_true rfl, Nat.le_of_ble_eq_true rfl⟩) (rd_S xT_ok trivial (hK.sub [] rfl) va_P_nil) rfl rfl hl.1 rfl (lv_room (Nat.le_of_ble_eq_true rfl)) dM_cut_11 ⟨Nat.zero_le _, Nat.zero_le _⟩) ?_
      refine W.eq (g2 := F0 m 14 ls [.int (bI (isInB ((nI i).toInt64) 0 (((nI M.co) - (nI 1)).toInt64))), .ref (mo 0)]) rfl ?_
      refine lb_eq (tgt := 33) hx hb dM_cut_14 (by decide) (fun hb9 => ?_) (fun hb9 => ?_)
      · exact absurd (hi9y.symm.trans hb9) (by decide)
      · refine lv_iload_n hx hb dM_cut_17 rfl (lv_at hl 2 rfl) ?_
        refine lv_i2l (v := (nI j).toInt64) hx hb dM_cut_18 rfl ?_
        refine lv_lconst (v := 0) hx hb dM_cut_19 (by decide) ?_
        refine lv_aload_n hx hb dM_cut_20 rfl (lv_at hl 0 rfl) ?_
        refine va_get (D := (dC, dI)) (ci := 2) (v := .int (nI M.co)) (C := RM) (T := FM) (N := 19) hx hb hta iM hown hK hP 0 rfl rfl 2 (by decide) (hta _ m_494) (fun _ h9 => h9) rfl dM_cut_21 ?_
        refine lv_iconst (v := nI 1) hx hb dM_cut_24 (by decide) ?_
        refine lv_isub hx hb dM_cut_25 ?_
        refine lv_i2l (v := ((nI M.co) - (nI 1)).toInt64) hx hb dM_cut_26 rfl ?_
        refine rd_call (va_runS (As := [.long ((nI j).toInt64), .long 0, .long (((nI M.co) - (nI 1)).toInt64)]) (rest := [.ref (mo 0)]) ⟨hx, hb, hml, hown, hta⟩ (c_M_isIn l dC dI mo km ((nI j).toInt64) 0 (((nI M.co) - (nI 1)).toInt64)) (cwS 3 hta (gS m_559 m_560 m_4 m_561) rfl rfl rfl (by decide +kernel) ⟨Nat.le_of_ble_eq_true rfl, Nat.le_of_ble_eq_true rfl⟩) (rd_S xT_ok trivial (hK.sub [] rfl) va_P_nil) rfl rfl hl.1 rfl (lv_room (Nat.le_of_ble_eq_true rfl)) dM_cut_27 ⟨Nat.zero_le _, Nat.zero_le _⟩) ?_
        refine W.eq (g2 := F0 m 30 ls [.int (bI (isInB ((nI j).toInt64) 0 (((nI M.co) - (nI 1)).toInt64))), .ref (mo 0)]) rfl ?_
        refine lb_ne (tgt := 37) hx hb dM_cut_30 (by decide) (fun hb9 => ?_) (fun hb9 => ?_)
        · refine lv_aload_n hx hb dM_cut_37 rfl (lv_at hl 0 rfl) ?_
          refine va_get (D := (dC, dI)) (ci := 2) (v := .int (nI M.ro)) (C := RM) (T := FM) (N := 19) hx hb hta iM hown hK hP 0 rfl rfl 4 (by decide) (hta _ m_496) (fun _ h9 => h9) rfl dM_cut_38 ?_
          refine lv_bipush (v := nI 12) hx hb dM_cut_41 (by decide) ?_
          refine ni_ne (tgt := 50) hx hb dM_cut_43 (by decide) (by omega) (by omega) (fun h1 => ?_) (fun h1 => ?_)
          · refine lv_iload_n hx hb dM_cut_50 rfl (lv_at hl 1 rfl) ?_
            refine lv_iload_n hx hb dM_cut_51 rfl (lv_at hl 2 rfl) ?_
            refine ni_ne (tgt := 59) hx hb dM_cut_52 (by decide) (by omega) (by omega) (fun h2 => ?_) (fun h2 => ?_)
            · refine lv_iconst (v := nI 0) hx hb dM_cut_59 (by decide) ?_
              refine va_put (D := (dC, dI)) (ci := 2) (v := .int (nI 0)) (ty := .int) (C := RM) (T := FM) (N := 19) hx hb hta iM tM tM_ok nM hown hK hP hD hS 0 rfl rfl 0 (by decide) (hta _ m_492) (fun _ h9 => h9) rfl (by decide +kernel) rfl rfl (Nat.le_of_ble_eq_true rfl) dM_cut_60 (fun H locs hP hD hS => ?_)
              have hP : va_P (dC, dI) vwCl (MW mo km (mTh M 0)) H := hP
              have hD : va_D A (MW mo km (mTh M 0)) := hD
              refine lv_aload_n hx hb dM_cut_63 rfl (lv_at hl 0 rfl) ?_
              refine va_get (D := (dC, dI)) (ci := 2) (v := .int (nI 0)) (C := RM) (T := FM) (N := 19) hx hb hta iM hown hK hP 0 rfl rfl 0 (by decide) (hta _ m_492) (fun _ h9 => h9) rfl dM_cut_64 ?_
              refine lz_le (tgt := 72) hx hb dM_cut_67 (by decide) (fun c_3 => ?_) (fun c_3 => ?_)
              · refine lv_aload_n hx hb dM_cut_72 rfl (lv_at hl 0 rfl) ?_
                refine va_get (D := (dC, dI)) (ci := 2) (v := .ref (mo 5)) (C := RM) (T := FM) (N := 19) hx hb hta iM hown hK hP 0 rfl rfl 8 (by decide) (hta _ m_500) (fun _ h9 => h9) rfl dM_cut_73 ?_
                refine lv_bipush (v := nI 12) hx hb dM_cut_76 (by decide) ?_
                refine lv_aload_n hx hb dM_cut_78 rfl (lv_at hl 0 rfl) ?_
                refine va_get (D := (dC, dI)) (ci := 2) (v := .int (nI M.ro)) (C := RM) (T := FM) (N := 19) hx hb hta iM hown hK hP 0 rfl rfl 4 (by decide) (hta _ m_496) (fun _ h9 => h9) rfl dM_cut_79 ?_
                refine lv_imul hx hb dM_cut_82 ?_
                refine st_i (y := nI (12 * M.ro)) (pk_mul _ _) ?_
                refine lv_iload_n hx hb dM_cut_83 rfl (lv_at hl 1 rfl) ?_
                refine lv_iadd hx hb dM_cut_84 ?_
                refine st_i (y := nI ((12 * M.ro) + i)) (nI_add _ _) ?_
                refine lv_lconst (v := 1) hx hb dM_cut_85 (by decide) ?_
                refine na_last hx hb hK hP hD hS 5 4 rfl rfl (i := ((12 * M.ro) + i)) (x := 1) (by omega) (by decide) dM_cut_86 (fun H locs hP hD hS => ?_)
                have hP : va_P (dC, dI) vwCl (MW mo km (ms 0 M.wk M.co M.cs M.ro M.ki M.wo M.ri (vp_updL M.fa ((12 * M.ro) + i) 1) M.li M.ln M.hr M.st M.dn M.pl M.ou M.ta M.nx M.ag)) H := hP
                have hD : va_D A (MW mo km (ms 0 M.wk M.co M.cs M.ro M.ki M.wo M.ri (vp_updL M.fa ((12 * M.ro) + i) 1) M.li M.ln M.hr M.st M.dn M.pl M.ou M.ta M.nx M.ag)) := hD
                refine lv_aload_n hx hb dM_cut_87 rfl (lv_at hl 0 rfl) ?_
                refine va_get (D := (dC, dI)) (ci := 2) (v := .ref (mo 5)) (C := RM) (T := FM) (N := 19) hx hb hta iM hown hK hP 0 rfl rfl 8 (by decide) (hta _ m_500) (fun _ h9 => h9) rfl dM_cut_88 ?_
                refine lv_bipush (v := nI 12) hx hb dM_cut_91 (by decide) ?_
                refine lv_aload_n hx hb dM_cut_93 rfl (lv_at hl 0 rfl) ?_
                refine va_get (D := (dC, dI)) (ci := 2) (v := .int (nI M.ro)) (C := RM) (T := FM) (N := 19) hx hb hta iM hown hK hP 0 rfl rfl 4 (by decide) (hta _ m_496) (fun _ h9 => h9) rfl dM_cut_94 ?_
                refine lv_imul hx hb dM_cut_97 ?_
                refine st_i (y := nI (12 * M.ro)) (pk_mul _ _) ?_
                refine lv_iload_n hx hb dM_cut_98 rfl (lv_at hl 2 rfl) ?_
                refine lv_iadd hx hb dM_cut_99 ?_
                refine st_i (y := nI ((12 * M.ro) + j)) (nI_add _ _) ?_
                refine lv_lconst (v := 1) hx hb dM_cut_100 (by decide) ?_
                refine na_last hx hb hK hP hD hS 5 4 rfl rfl (i := ((12 * M.ro) + j)) (x := 1) (by omega) (by decide) dM_cut_101 (fun H locs hP hD hS => ?_)
                have hP : va_P (dC, dI) vwCl (MW mo km (ms 0 M.wk M.co M.cs M.ro M.ki M.wo M.ri (vp_updL (vp_updL M.fa ((12 * M.ro) + i) 1) ((12 * M.ro) + j) 1) M.li M.ln M.hr M.st M.dn M.pl M.ou M.ta M.nx M.ag)) H := hP
                have hD : va_D A (MW mo km (ms 0 M.wk M.co M.cs M.ro M.ki M.wo M.ri (vp_updL (vp_updL M.fa ((12 * M.ro) + i) 1) ((12 * M.ro) + j) 1) M.li M.ln M.hr M.st M.dn M.pl M.ou M.ta M.nx M.ag)) := hD
                refine lv_aload_n hx hb dM_cut_102 rfl (lv_at hl 0 rfl) ?_
                refine lv_iconst (v := 1) hx hb dM_cut_103 (by decide) ?_
                refine lv_iconst (v := 0) hx hb dM_cut_104 (by decide) ?_
                refine lv_lconst (v := 1) hx hb dM_cut_105 (by decide) ?_
                refine wr_call (X := ([] : va_W)) (va_runV (As := [.int 1, .int 0, .long 1]) (rest := []) ⟨hx, hb, hml, hown, hta⟩ (c_M_add l dC dI mo km (ms 0 M.wk M.co M.cs M.ro M.ki M.wo M.ri (vp_updL (vp_updL M.fa ((12 * M.ro) + i) 1) ((12 * M.ro) + j) 1) M.li M.ln M.hr M.st M.dn M.pl M.ou M.ta M.nx M.ag) H.size 1 0 1 (show M.ro < 12 by omega)) (cwV 3 hta (gV m_569 m_571 mp_40 m_4 m_572) rfl rfl rfl (by decide +kernel) ⟨Nat.le_of_ble_eq_true rfl, Nat.le_of_ble_eq_true rfl⟩) (wr_V xT_ok trivial hK hP hD (ci := 2) (q0 := 0) rfl rfl) rfl rfl hl.1 rfl (lv_room (Nat.le_of_ble_eq_true rfl)) dM_cut_106 ⟨Nat.zero_le _, Nat.zero_le _⟩) hP hD hS hA rfl (fun H locs hP hD hS => ?_)
                have hP : va_P (dC, dI) vwCl (MW mo km (adM (ms 0 M.wk M.co M.cs M.ro M.ki M.wo M.ri (vp_updL (vp_updL M.fa ((12 * M.ro) + i) 1) ((12 * M.ro) + j) 1) M.li M.ln M.hr M.st M.dn M.pl M.ou M.ta M.nx M.ag) 1 0 1)) H := hP
                have hD : va_D A (MW mo km (adM (ms 0 M.wk M.co M.cs M.ro M.ki M.wo M.ri (vp_updL (vp_updL M.fa ((12 * M.ro) + i) 1) ((12 * M.ro) + j) 1) M.li M.ln M.hr M.st M.dn M.pl M.ou M.ta M.nx M.ag) 1 0 1)) := hD
                refine W.eq (g2 := F0 m 109 ls [.int (nI M.ro)]) rfl ?_
                exact W.iret (v := nI M.ro) hx hb hr (fun t ht hW => ⟨congrArg (fun z => Outcome.returned (some (.int z))) (by first | (simp only [cuM, hi9, hj, h1, h2, if_false]; done) | (simp only [cuM, hi9, hj, h1, h2, if_false]; rfl)), by rw [ht]; exact (by first | (simp only [cuM, hi9, hj, h1, h2, if_false]; exact hP)), hS.F ht⟩) hS.2.2 dM_cut_109
              · exact absurd c_3 (by decide)
            · refine lv_iconst (v := nI 3) hx hb dM_cut_55 (by decide) ?_
              refine lv_goto (tgt := 60) hx hb dM_cut_56 (by decide) ?_
              refine va_put (D := (dC, dI)) (ci := 2) (v := .int (nI 3)) (ty := .int) (C := RM) (T := FM) (N := 19) hx hb hta iM tM tM_ok nM hown hK hP hD hS 0 rfl rfl 0 (by decide) (hta _ m_492) (fun _ h9 => h9) rfl (by decide +kernel) rfl rfl (Nat.le_of_ble_eq_true rfl) dM_cut_60 (fun H locs hP hD hS => ?_)
              have hP : va_P (dC, dI) vwCl (MW mo km (mTh M 3)) H := hP
              have hD : va_D A (MW mo km (mTh M 3)) := hD
              refine lv_aload_n hx hb dM_cut_63 rfl (lv_at hl 0 rfl) ?_
              refine va_get (D := (dC, dI)) (ci := 2) (v := .int (nI 3)) (C := RM) (T := FM) (N := 19) hx hb hta iM hown hK hP 0 rfl rfl 0 (by decide) (hta _ m_492) (fun _ h9 => h9) rfl dM_cut_64 ?_
              refine lz_le (tgt := 72) hx hb dM_cut_67 (by decide) (fun c_4 => ?_) (fun c_4 => ?_)
              · exact absurd c_4 (by decide)
              · refine lv_iconst (v := nI 0) hx hb dM_cut_70 (by decide) ?_
                exact W.iret (v := nI 0) hx hb hr (fun t ht hW => ⟨congrArg (fun z => Outcome.returned (some (.int z))) (by first | (simp only [cuM, hi9, hj, h1, if_true]; done) | (simp only [cuM, hi9, hj, h1, h2, if_true, if_false]; done) | (simp only [cuM, hi9, hj, h1, if_true]; rfl) | (simp only [cuM, hi9, hj, h1, h2, if_true, if_false]; rfl)), by rw [ht]; exact (by first | (simp only [cuM, hi9, hj, h1, if_true]; exact hP) | (simp only [cuM, hi9, hj, h1, h2, if_true, if_false]; exact hP)), hS.F ht⟩) hS.2.2 dM_cut_71
          · refine lv_iconst (v := nI 2) hx hb dM_cut_46 (by decide) ?_
            refine lv_goto (tgt := 60) hx hb dM_cut_47 (by decide) ?_
            refine va_put (D := (dC, dI)) (ci := 2) (v := .int (nI 2)) (ty := .int) (C := RM) (T := FM) (N := 19) hx hb hta iM tM tM_ok nM hown hK hP hD hS 0 rfl rfl 0 (by decide) (hta _ m_492) (fun _ h9 => h9) rfl (by decide +kernel) rfl rfl (Nat.le_of_ble_eq_true rfl) dM_cut_60 (fun H locs hP hD hS => ?_)
            have hP : va_P (dC, dI) vwCl (MW mo km (mTh M 2)) H := hP
            have hD : va_D A (MW mo km (mTh M 2)) := hD
            refine lv_aload_n hx hb dM_cut_63 rfl (lv_at hl 0 rfl) ?_
            refine va_get (D := (dC, dI)) (ci := 2) (v := .int (nI 2)) (C := RM) (T := FM) (N := 19) hx hb hta iM hown hK hP 0 rfl rfl 0 (by decide) (hta _ m_492) (fun _ h9 => h9) rfl dM_cut_64 ?_
            refine lz_le (tgt := 72) hx hb dM_cut_67 (by decide) (fun c_5 => ?_) (fun c_5 => ?_)
            · exact absurd c_5 (by decide)
            · refine lv_iconst (v := nI 0) hx hb dM_cut_70 (by decide) ?_
              exact W.iret (v := nI 0) hx hb hr (fun t ht hW => ⟨congrArg (fun z => Outcome.returned (some (.int z))) (by first | (simp only [cuM, hi9, hj, h1, if_true]; done) | (simp only [cuM, hi9, hj, h1, h2, if_true, if_false]; done) | (simp only [cuM, hi9, hj, h1, if_true]; rfl) | (simp only [cuM, hi9, hj, h1, h2, if_true, if_false]; rfl)), by rw [ht]; exact (by first | (simp only [cuM, hi9, hj, h1, if_true]; exact hP) | (simp only [cuM, hi9, hj, h1, h2, if_true, if_false]; exact hP)), hS.F ht⟩) hS.2.2 dM_cut_71
        · exact absurd (hjy.symm.trans hb9) (by decide)

set_option maxHeartbeats 4000000 in
set_option maxRecDepth 100000 in
theorem c_M_count (l : Launch) (dC : Nat → ClassId) (dI : Nat → Nat → Nat) (mo : Nat → Nat) (km : Nat → ClassId) (M : MS) (sz : Nat) (x : Int32) (hro : M.ro ≤ 12) : Met l yM_count wM_count ({ frames := 1, cells := 0, slots := 0, locals := 25 }) (wPc [.ref (mo 0), .int x] sz (dC, dI) vwCl (MW mo km M) (MK km) xT) (wQ (some (.int (ctR M x))) (dC, dI) vwCl (MW mo km (mTh M 0)) (va_A (MW mo km M) sz)) 0 0 (va_A (MW mo km M) sz) := by
  refine Met.ofW (cc := bM_count) (maxL := 4) (ret := (some .int)) (by decide) rfl ?_
  intro p e s m args below meth c s₁ B hml hv
  obtain ⟨rfl, hsz, hP, hK, hD0, hX⟩ := hv
  have hx := B.exec
  have hb := B.bytes
  have hr := B.returns
  have hts := atoms_spec (ws := wM_count) B.pre
  have hta : ∀ w ∈ AW, w.before _ s = true := fun w h => hts w (List.mem_cons_of_mem _ h)
  have hown : s.vm.findClass RM = some m.cls := findClass_of_methodNamed B.named
  have hlocks := B.notSynchronized
  subst hsz
  have hD := hD0.self (sz := s.heap.size)
  generalize hAe : va_A (MW mo km M) s.heap.size = A at hD ⊢
  have hA : ∀ q : Nat, s.heap.size ≤ q → A q := fun q h => by rw [← hAe]; exact Or.inr h
  have hS : va_S A s.heap s.heap [] := va_S.rf
  have hl := lv_entry ([.ref (mo 0), .int x]) (n := 4) (Nat.le_of_ble_eq_true rfl)
  rw [lg_entry_eq]
  generalize (lg_sl ([.ref (mo 0), .int x]) ++ List.replicate (4 - (lg_sl ([.ref (mo 0), .int x])).length) Slot.unset).toArray = ls at hl ⊢
  have hl : lv_has ls 4 [(0, .ref (mo 0)), (1, .int x)] := hl
  refine lv_aload_n hx hb dM_count_0 rfl (lv_at hl 0 rfl) ?_
  refine lv_iconst (v := nI 0) hx hb dM_count_1 (by decide) ?_
  refine va_put (D := (dC, dI)) (ci := 2) (v := .int (nI 0)) (ty := .int) (C := RM) (T := FM) (N := 19) hx hb hta iM tM tM_ok nM hown hK hP hD hS 0 rfl rfl 0 (by decide) (hta _ m_492) (fun _ h9 => h9) rfl (by decide +kernel) rfl rfl (Nat.le_of_ble_eq_true rfl) dM_count_2 (fun H locs hP hD hS => ?_)
  have hP : va_P (dC, dI) vwCl (MW mo km (mTh M 0)) H := hP
  have hD : va_D A (MW mo km (mTh M 0)) := hD
  refine lv_iload_n hx hb dM_count_5 rfl (lv_at hl 1 rfl) ?_
  refine lv_i2l (v := x.toInt64) hx hb dM_count_6 rfl ?_
  refine lv_ldc2 (v := 5) hx hb hown (hta _ m_675) dM_count_7 ?_
  refine lv_iconst (v := nI 4) hx hb dM_count_10 (by decide) ?_
  refine lv_aload_n hx hb dM_count_11 rfl (lv_at hl 0 rfl) ?_
  refine va_get (D := (dC, dI)) (ci := 2) (v := .int M.wk) (C := RM) (T := FM) (N := 19) hx hb hta iM hown hK hP 0 rfl rfl 1 (by decide) (hta _ m_493) (fun _ h9 => h9) rfl dM_count_12 ?_
  refine lv_iadd hx hb dM_count_15 ?_
  refine lv_i2l (v := ((nI 4) + M.wk).toInt64) hx hb dM_count_16 rfl ?_
  refine rd_call (va_runS (As := [.long x.toInt64, .long 5, .long (((nI 4) + M.wk).toInt64)]) (rest := []) ⟨hx, hb, hml, hown, hta⟩ (c_M_isIn l dC dI mo km x.toInt64 5 (((nI 4) + M.wk).toInt64)) (cwS 3 hta (gS m_559 m_560 m_4 m_561) rfl rfl rfl (by decide +kernel) ⟨Nat.le_of_ble_eq_true rfl, Nat.le_of_ble_eq_true rfl⟩) (rd_S xT_ok trivial (hK.sub [] rfl) va_P_nil) rfl rfl hl.1 rfl (lv_room (Nat.le_of_ble_eq_true rfl)) dM_count_17 ⟨Nat.zero_le _, Nat.zero_le _⟩) ?_
  refine W.eq (g2 := F0 m 20 ls [.int (bI (isInB x.toInt64 5 (((nI 4) + M.wk).toInt64)))]) rfl ?_
  refine lb_eq (tgt := 63) hx hb dM_count_20 (by decide) (fun h0 => ?_) (fun h0 => ?_)
  · refine lv_iload_n hx hb dM_count_63 rfl (lv_at hl 1 rfl) ?_
    refine lv_if_ne (tgt := 74) hx hb dM_count_64 (by decide) (fun k0 => ?_) (fun k0 => ?_)
    · refine lv_iload_n hx hb dM_count_74 rfl (lv_at hl 1 rfl) ?_
      refine lv_iconst (v := 1) hx hb dM_count_75 (by decide) ?_
      refine lv_icmp_ne (tgt := 86) hx hb dM_count_76 (by decide) (fun k1 => ?_) (fun k1 => ?_)
      · refine lv_iload_n hx hb dM_count_86 rfl (lv_at hl 1 rfl) ?_
        refine lv_iconst (v := 2) hx hb dM_count_87 (by decide) ?_
        refine lv_icmp_ne (tgt := 98) hx hb dM_count_88 (by decide) (fun k2 => ?_) (fun k2 => ?_)
        · refine lv_iload_n hx hb dM_count_98 rfl (lv_at hl 1 rfl) ?_
          refine lv_iconst (v := 3) hx hb dM_count_99 (by decide) ?_
          refine lv_icmp_ne (tgt := 111) hx hb dM_count_100 (by decide) (fun k3 => ?_) (fun k3 => ?_)
          · refine lv_iload_n hx hb dM_count_111 rfl (lv_at hl 1 rfl) ?_
            refine lv_iconst (v := 4) hx hb dM_count_112 (by decide) ?_
            refine lv_icmp_ne (tgt := 123) hx hb dM_count_113 (by decide) (fun k4 => ?_) (fun k4 => ?_)
            · refine lv_iconst (v := (-1)) hx hb dM_count_123 (by decide) ?_
              exact W.iret (v := (-1)) hx hb hr (fun t ht hW => ⟨congrArg (fun z => Outcome.returned (some (.int z))) (by first | (rw [ctR, if_neg (by rw [h0]; decide), if_pos k0]; done) | (rw [ctR, if_neg (by rw [h0]; decide), if_neg k0, if_pos k1]; done) | (rw [ctR, if_neg (by rw [h0]; decide), if_neg k0, if_neg k1, if_pos k2]; done) | (rw [ctR, if_neg (by rw [h0]; decide), if_neg k0, if_neg k1, if_neg k2, if_pos k3]; done) | (rw [ctR, if_neg (by rw [h0]; decide), if_neg k0, if_neg k1, if_neg k2, if_neg k3, if_pos k4]; done) | (rw [ctR, if_neg (by rw [h0]; decide), if_neg k0, if_neg k1, if_neg k2, if_neg k3, if_neg k4]; done)), by rw [ht]; exact hP, hS.F ht⟩) hS.2.2 dM_count_124
            · refine lv_aload_n hx hb dM_count_116 rfl (lv_at hl 0 rfl) ?_
              refine va_get (D := (dC, dI)) (ci := 2) (v := .int M.wk) (C := RM) (T := FM) (N := 19) hx hb hta iM hown hK hP 0 rfl rfl 1 (by decide) (hta _ m_493) (fun _ h9 => h9) rfl dM_count_117 ?_
              refine lv_goto (tgt := 124) hx hb dM_count_120 (by decide) ?_
              exact W.iret (v := M.wk) hx hb hr (fun t ht hW => ⟨congrArg (fun z => Outcome.returned (some (.int z))) (by first | (rw [ctR, if_neg (by rw [h0]; decide), if_pos k0]; done) | (rw [ctR, if_neg (by rw [h0]; decide), if_neg k0, if_pos k1]; done) | (rw [ctR, if_neg (by rw [h0]; decide), if_neg k0, if_neg k1, if_pos k2]; done) | (rw [ctR, if_neg (by rw [h0]; decide), if_neg k0, if_neg k1, if_neg k2, if_pos k3]; done) | (rw [ctR, if_neg (by rw [h0]; decide), if_neg k0, if_neg k1, if_neg k2, if_neg k3, if_pos k4]; done) | (rw [ctR, if_neg (by rw [h0]; decide), if_neg k0, if_neg k1, if_neg k2, if_neg k3, if_neg k4]; done)), by rw [ht]; exact hP, hS.F ht⟩) hS.2.2 dM_count_124
          · refine lv_aload_n hx hb dM_count_103 rfl (lv_at hl 0 rfl) ?_
            refine va_get (D := (dC, dI)) (ci := 2) (v := .long M.dn) (C := RM) (T := FM) (N := 19) hx hb hta iM hown hK hP 0 rfl rfl 13 (by decide) (hta _ m_505) (fun _ h9 => h9) rfl dM_count_104 ?_
            refine lv_l2i (v := M.dn.toInt32) hx hb dM_count_107 rfl ?_
            refine lv_goto (tgt := 124) hx hb dM_count_108 (by decide) ?_
            exact W.iret (v := M.dn.toInt32) hx hb hr (fun t ht hW => ⟨congrArg (fun z => Outcome.returned (some (.int z))) (by first | (rw [ctR, if_neg (by rw [h0]; decide), if_pos k0]; done) | (rw [ctR, if_neg (by rw [h0]; decide), if_neg k0, if_pos k1]; done) | (rw [ctR, if_neg (by rw [h0]; decide), if_neg k0, if_neg k1, if_pos k2]; done) | (rw [ctR, if_neg (by rw [h0]; decide), if_neg k0, if_neg k1, if_neg k2, if_pos k3]; done) | (rw [ctR, if_neg (by rw [h0]; decide), if_neg k0, if_neg k1, if_neg k2, if_neg k3, if_pos k4]; done) | (rw [ctR, if_neg (by rw [h0]; decide), if_neg k0, if_neg k1, if_neg k2, if_neg k3, if_neg k4]; done)), by rw [ht]; exact hP, hS.F ht⟩) hS.2.2 dM_count_124
        · refine lv_aload_n hx hb dM_count_91 rfl (lv_at hl 0 rfl) ?_
          refine va_get (D := (dC, dI)) (ci := 2) (v := .int (nI M.ln)) (C := RM) (T := FM) (N := 19) hx hb hta iM hown hK hP 0 rfl rfl 10 (by decide) (hta _ m_502) (fun _ h9 => h9) rfl dM_count_92 ?_
          refine lv_goto (tgt := 124) hx hb dM_count_95 (by decide) ?_
          exact W.iret (v := nI M.ln) hx hb hr (fun t ht hW => ⟨congrArg (fun z => Outcome.returned (some (.int z))) (by first | (rw [ctR, if_neg (by rw [h0]; decide), if_pos k0]; done) | (rw [ctR, if_neg (by rw [h0]; decide), if_neg k0, if_pos k1]; done) | (rw [ctR, if_neg (by rw [h0]; decide), if_neg k0, if_neg k1, if_pos k2]; done) | (rw [ctR, if_neg (by rw [h0]; decide), if_neg k0, if_neg k1, if_neg k2, if_pos k3]; done) | (rw [ctR, if_neg (by rw [h0]; decide), if_neg k0, if_neg k1, if_neg k2, if_neg k3, if_pos k4]; done) | (rw [ctR, if_neg (by rw [h0]; decide), if_neg k0, if_neg k1, if_neg k2, if_neg k3, if_neg k4]; done)), by rw [ht]; exact hP, hS.F ht⟩) hS.2.2 dM_count_124
      · refine lv_aload_n hx hb dM_count_79 rfl (lv_at hl 0 rfl) ?_
        refine va_get (D := (dC, dI)) (ci := 2) (v := .int (nI M.ro)) (C := RM) (T := FM) (N := 19) hx hb hta iM hown hK hP 0 rfl rfl 4 (by decide) (hta _ m_496) (fun _ h9 => h9) rfl dM_count_80 ?_
        refine lv_goto (tgt := 124) hx hb dM_count_83 (by decide) ?_
        exact W.iret (v := nI M.ro) hx hb hr (fun t ht hW => ⟨congrArg (fun z => Outcome.returned (some (.int z))) (by first | (rw [ctR, if_neg (by rw [h0]; decide), if_pos k0]; done) | (rw [ctR, if_neg (by rw [h0]; decide), if_neg k0, if_pos k1]; done) | (rw [ctR, if_neg (by rw [h0]; decide), if_neg k0, if_neg k1, if_pos k2]; done) | (rw [ctR, if_neg (by rw [h0]; decide), if_neg k0, if_neg k1, if_neg k2, if_pos k3]; done) | (rw [ctR, if_neg (by rw [h0]; decide), if_neg k0, if_neg k1, if_neg k2, if_neg k3, if_pos k4]; done) | (rw [ctR, if_neg (by rw [h0]; decide), if_neg k0, if_neg k1, if_neg k2, if_neg k3, if_neg k4]; done)), by rw [ht]; exact hP, hS.F ht⟩) hS.2.2 dM_count_124
    · refine lv_aload_n hx hb dM_count_67 rfl (lv_at hl 0 rfl) ?_
      refine va_get (D := (dC, dI)) (ci := 2) (v := .int (nI M.co)) (C := RM) (T := FM) (N := 19) hx hb hta iM hown hK hP 0 rfl rfl 2 (by decide) (hta _ m_494) (fun _ h9 => h9) rfl dM_count_68 ?_
      refine lv_goto (tgt := 124) hx hb dM_count_71 (by decide) ?_
      exact W.iret (v := nI M.co) hx hb hr (fun t ht hW => ⟨congrArg (fun z => Outcome.returned (some (.int z))) (by first | (rw [ctR, if_neg (by rw [h0]; decide), if_pos k0]; done) | (rw [ctR, if_neg (by rw [h0]; decide), if_neg k0, if_pos k1]; done) | (rw [ctR, if_neg (by rw [h0]; decide), if_neg k0, if_neg k1, if_pos k2]; done) | (rw [ctR, if_neg (by rw [h0]; decide), if_neg k0, if_neg k1, if_neg k2, if_pos k3]; done) | (rw [ctR, if_neg (by rw [h0]; decide), if_neg k0, if_neg k1, if_neg k2, if_neg k3, if_pos k4]; done) | (rw [ctR, if_neg (by rw [h0]; decide), if_neg k0, if_neg k1, if_neg k2, if_neg k3, if_neg k4]; done)), by rw [ht]; exact hP, hS.F ht⟩) hS.2.2 dM_count_124
  · refine lv_iconst (v := nI 0) hx hb dM_count_23 (by decide) ?_
    refine lv_istore_n (lv' := [(2, .int (nI 0)), (0, .ref (mo 0)), (1, .int x)]) hx hb dM_count_24 rfl hl (by decide) rfl (fun ls hl => ?_)
    refine lv_iconst (v := nI 0) hx hb dM_count_25 (by decide) ?_
    refine lv_istore_n (lv' := [(3, .int (nI 0)), (2, .int (nI 0)), (0, .ref (mo 0)), (1, .int x)]) hx hb dM_count_26 rfl hl (by decide) rfl (fun ls hl => ?_)
    have loop27 : ∀ (n : Nat) (i : Nat) (f : Nat) (ls : Array Slot), (i + n = M.ro) → (rwL M.wo (x - 5) i n f = rwL M.wo (x - 5) 0 M.ro 0) → lv_has ls 4 [(3, .int (nI i)), (2, .int (nI f)), (0, .ref (mo 0)), (1, .int x)] → W p l e (headSpec wM_count ({ frames := 1, cells := 0, slots := 0, locals := 25 })).room s m ([.ref (mo 0), .int x] : List Value).toArray below meth c H locs 0 0 (MQ below (wQ (some (.int (ctR M x))) (dC, dI) vwCl (MW mo km (mTh M 0)) A) ([.ref (mo 0), .int x] : List Value).toArray s 0 0 A) (F0 m 27 ls []) := by
      intro n
      induction n with
      | zero =>
        intro i f ls hn hq hl
        refine lv_iload_n hx hb dM_count_27 rfl (lv_at hl 0 rfl) ?_
        refine lv_aload_n hx hb dM_count_28 rfl (lv_at hl 2 rfl) ?_
        refine va_get (D := (dC, dI)) (ci := 2) (v := .int (nI M.ro)) (C := RM) (T := FM) (N := 19) hx hb hta iM hown hK hP 0 rfl rfl 4 (by decide) (hta _ m_496) (fun _ h9 => h9) rfl dM_count_29 ?_
        refine ni_ge (tgt := 61) hx hb dM_count_32 (by decide) (by omega) (by omega) (fun c_1 => ?_) (fun c_1 => ?_)
        · refine lv_iload_n hx hb dM_count_61 rfl (lv_at hl 1 rfl) ?_
          exact W.iret (v := nI f) hx hb hr (fun t ht hW => ⟨congrArg (fun z => Outcome.returned (some (.int z))) (by rw [ctR, if_pos h0, ← hq]; rfl), by rw [ht]; exact hP, hS.F ht⟩) hS.2.2 dM_count_62
        · exfalso; omega
      | succ n ih =>
        intro i f ls hn hq hl
        refine lv_iload_n hx hb dM_count_27 rfl (lv_at hl 0 rfl) ?_
        refine lv_aload_n hx hb dM_count_28 rfl (lv_at hl 2 rfl) ?_
        refine va_get (D := (dC, dI)) (ci := 2) (v := .int (nI M.ro)) (C := RM) (T := FM) (N := 19) hx hb hta iM hown hK hP 0 rfl rfl 4 (by decide) (hta _ m_496) (fun _ h9 => h9) rfl dM_count_29 ?_
        refine ni_ge (tgt := 61) hx hb dM_count_32 (by decide) (by omega) (by omega) (fun c_2 => ?_) (fun c_2 => ?_)
        · exfalso; omega
        · refine lv_iload_n hx hb dM_count_35 rfl (lv_at hl 1 rfl) ?_
          refine lv_aload_n hx hb dM_count_36 rfl (lv_at hl 2 rfl) ?_
          refine va_get (D := (dC, dI)) (ci := 2) (v := .ref (mo 3)) (C := RM) (T := FM) (N := 19) hx hb hta iM hown hK hP 0 rfl rfl 6 (by decide) (hta _ m_498) (fun _ h9 => h9) rfl dM_count_37 ?_
          refine lv_iload_n hx hb dM_count_40 rfl (lv_at hl 0 rfl) ?_
          refine na_iald hx hb hK hP 3 2 rfl rfl (i := i) (by omega) (by decide) dM_count_41 ?_
          refine lv_iload_n hx hb dM_count_42 rfl (lv_at hl 3 rfl) ?_
          refine lv_iconst (v := 5) hx hb dM_count_43 (by decide) ?_
          refine lv_isub hx hb dM_count_44 ?_
          refine lv_icmp_ne (tgt := 52) hx hb dM_count_45 (by decide) (fun hc => ?_) (fun hc => ?_)
          · have hc : ¬ M.wo i = x - 5 := hc
            refine lv_iconst (v := nI 0) hx hb dM_count_52 (by decide) ?_
            refine lv_iadd hx hb dM_count_53 ?_
            refine st_i (y := nI (f + 0)) (nI_add _ _) ?_
            refine lv_istore_n (lv' := [(2, .int (nI (f + 0))), (3, .int (nI i)), (0, .ref (mo 0)), (1, .int x)]) hx hb dM_count_54 rfl hl (by decide) rfl (fun ls hl => ?_)
            refine lv_iinc (v := nI (i + 1)) (lv' := [(3, .int (nI (i + 1))), (2, .int (nI (f + 0))), (0, .ref (mo 0)), (1, .int x)]) hx hb dM_count_55 hl (k := 1) rfl (nI_add i 1) (by decide) rfl (fun ls hl => ?_)
            refine lv_goto (tgt := 27) hx hb dM_count_58 (by decide) ?_
            exact ih (i + 1) (f + 0) ls (by omega) (by rw [← hq]; simp [rwL, hc]) (lv_sub hl [0, 1, 2, 3] rfl)
          · have hc : M.wo i = x - 5 := hc
            refine lv_iconst (v := nI 1) hx hb dM_count_48 (by decide) ?_
            refine lv_goto (tgt := 53) hx hb dM_count_49 (by decide) ?_
            refine lv_iadd hx hb dM_count_53 ?_
            refine st_i (y := nI (f + 1)) (nI_add _ _) ?_
            refine lv_istore_n (lv' := [(2, .int (nI (f + 1))), (3, .int (nI i)), (0, .ref (mo 0)), (1, .int x)]) hx hb dM_count_54 rfl hl (by decide) rfl (fun ls hl => ?_)
            refine lv_iinc (v := nI (i + 1)) (lv' := [(3, .int (nI (i + 1))), (2, .int (nI (f + 1))), (0, .ref (mo 0)), (1, .int x)]) hx hb dM_count_55 hl (k := 1) rfl (nI_add i 1) (by decide) rfl (fun ls hl => ?_)
            refine lv_goto (tgt := 27) hx hb dM_count_58 (by decide) ?_
            exact ih (i + 1) (f + 1) ls (by omega) (by rw [← hq]; simp [rwL, hc]) (lv_sub hl [0, 1, 2, 3] rfl)
    exact loop27 M.ro 0 0 ls (by omega) rfl (lv_sub hl [0, 1, 2, 3] rfl)
