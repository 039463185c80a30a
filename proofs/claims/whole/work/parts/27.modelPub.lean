set_option maxHeartbeats 4000000 in
set_option maxRecDepth 100000 in
theorem c_M_column (l : Launch) (dC : Nat → ClassId) (dI : Nat → Nat → Nat) (mo : Nat → Nat) (km : Nat → ClassId) (M : MS) (sz : Nat) (v : Int64) (hco : M.co ≤ 12) : Met l yM_column wM_column ({ frames := 1, cells := 0, slots := 0, locals := 25 }) (wPc [.ref (mo 0), .long v] sz (dC, dI) vwCl (MW mo km M) (MK km) xT) (wQ (some (.int ((clM M v).1))) (dC, dI) vwCl (MW mo km ((clM M v).2)) (va_A (MW mo km M) sz)) 0 0 (va_A (MW mo km M) sz) := by
  refine Met.ofW (cc := bM_column) (maxL := 3) (ret := (some .int)) (by decide) rfl ?_
  intro p e s m args below meth c s₁ B hml hv
  obtain ⟨rfl, hsz, hP, hK, hD0, hX⟩ := hv
  have hx := B.exec
  have hb := B.bytes
  have hr := B.returns
  have hts := atoms_spec (ws := wM_column) B.pre
  have hta : ∀ w ∈ AW, w.before _ s = true := fun w h => hts w (List.mem_cons_of_mem _ h)
  have hown : s.vm.findClass RM = some m.cls := findClass_of_methodNamed B.named
  have hlocks := B.notSynchronized
  subst hsz
  have hD := hD0.self (sz := s.heap.size)
  generalize hAe : va_A (MW mo km M) s.heap.size = A at hD ⊢
  have hA : ∀ q : Nat, s.heap.size ≤ q → A q := fun q h => by rw [← hAe]; exact Or.inr h
  have hS : va_S A s.heap s.heap [] := va_S.rf
  have hl := lv_entry ([.ref (mo 0), .long v]) (n := 3) (Nat.le_of_ble_eq_true rfl)
  rw [lg_entry_eq]
  generalize (lg_sl ([.ref (mo 0), .long v]) ++ List.replicate (3 - (lg_sl ([.ref (mo 0), .long v])).length) Slot.unset).toArray = ls at hl ⊢
  have hl : lv_has ls 3 [(0, .ref (mo 0)), (1, .long v)] := hl
  refine lv_aload_n hx hb dM_column_0 rfl (lv_at hl 0 rfl) ?_
  refine lv_aload_n hx hb dM_column_1 rfl (lv_at hl 0 rfl) ?_
  refine va_get (D := (dC, dI)) (ci := 2) (v := .int (nI M.co)) (C := RM) (T := FM) (N := 19) hx hb hta iM hown hK hP 0 rfl rfl 2 (by decide) (hta _ m_494) (fun _ h9 => h9) rfl dM_column_2 ?_
  refine lv_bipush (v := nI 12) hx hb dM_column_5 (by decide) ?_
  refine ni_eq (tgt := 17) hx hb dM_column_7 (by decide) (by omega) (by omega) (fun h1 => ?_) (fun h1 => ?_)
  · refine lv_iconst (v := nI 1) hx hb dM_column_17 (by decide) ?_
    refine lv_goto (tgt := 37) hx hb dM_column_18 (by decide) ?_
    have eC : coC M v = 1 := by first | (simp [coC, h1]; done) | (simp [coC, h1, h2]; done) | (simp [coC, h1, h2, h3]; done)
    refine va_put (D := (dC, dI)) (ci := 2) (v := .int (nI 1)) (ty := .int) (C := RM) (T := FM) (N := 19) hx hb hta iM tM tM_ok nM hown hK hP hD hS 0 rfl rfl 0 (by decide) (hta _ m_492) (fun _ h9 => h9) rfl (by decide +kernel) rfl rfl (Nat.le_of_ble_eq_true rfl) dM_column_37 (fun H locs hP hD hS => ?_)
    have hP : va_P (dC, dI) vwCl (MW mo km (mTh M 1)) H := hP
    have hD : va_D A (MW mo km (mTh M 1)) := hD
    refine lv_aload_n hx hb dM_column_40 rfl (lv_at hl 0 rfl) ?_
    refine va_get (D := (dC, dI)) (ci := 2) (v := .int (nI 1)) (C := RM) (T := FM) (N := 19) hx hb hta iM hown hK hP 0 rfl rfl 0 (by decide) (hta _ m_492) (fun _ h9 => h9) rfl dM_column_41 ?_
    refine lz_le (tgt := 49) hx hb dM_column_44 (by decide) (fun c_1 => ?_) (fun c_1 => ?_)
    · exact absurd c_1 (by decide)
    · refine lv_iconst (v := nI 0) hx hb dM_column_47 (by decide) ?_
      exact W.iret (v := nI 0) hx hb hr (fun t ht hW => ⟨congrArg (fun z => Outcome.returned (some (.int z))) (by rw [clM, if_neg (by rw [eC]; decide)]), by rw [ht]; exact (by rw [clM, if_neg (by rw [eC]; decide), eC]; exact hP), hS.F ht⟩) hS.2.2 dM_column_48
  · refine lv_aload_n hx hb dM_column_10 rfl (lv_at hl 0 rfl) ?_
    refine va_get (D := (dC, dI)) (ci := 2) (v := .int (bI M.hr)) (C := RM) (T := FM) (N := 19) hx hb hta iM hown hK hP 0 rfl rfl 11 (by decide) (hta _ m_503) (fun _ h9 => h9) rfl dM_column_11 ?_
    refine lb_eq (tgt := 21) hx hb dM_column_14 (by decide) (fun h2 => ?_) (fun h2 => ?_)
    · refine lv_lload_n hx hb dM_column_21 rfl (lv_at hl 1 rfl) ?_
      refine lv_lconst (v := 0) hx hb dM_column_22 (by decide) ?_
      refine lv_ldc2 (v := 1000) hx hb hown (hta _ m_558) dM_column_23 ?_
      refine rd_call (va_runS (As := [.long v, .long 0, .long 1000]) (rest := [.ref (mo 0)]) ⟨hx, hb, hml, hown, hta⟩ (c_M_isIn l dC dI mo km v 0 1000) (cwS 3 hta (gS m_559 m_560 m_4 m_561) rfl rfl rfl (by decide +kernel) ⟨Nat.le_of_ble_eq_true rfl, Nat.le_of_ble_eq_true rfl⟩) (rd_S xT_ok trivial (hK.sub [] rfl) va_P_nil) rfl rfl hl.1 rfl (lv_room (Nat.le_of_ble_eq_true rfl)) dM_column_26 ⟨Nat.zero_le _, Nat.zero_le _⟩) ?_
      refine W.eq (g2 := F0 m 29 ls [.int (bI (isInB v 0 1000)), .ref (mo 0)]) rfl ?_
      refine lb_ne (tgt := 36) hx hb dM_column_29 (by decide) (fun h3 => ?_) (fun h3 => ?_)
      · refine lv_iconst (v := nI 0) hx hb dM_column_36 (by decide) ?_
        have eC : coC M v = 0 := by first | (simp [coC, h1]; done) | (simp [coC, h1, h2]; done) | (simp [coC, h1, h2, h3]; done)
        refine va_put (D := (dC, dI)) (ci := 2) (v := .int (nI 0)) (ty := .int) (C := RM) (T := FM) (N := 19) hx hb hta iM tM tM_ok nM hown hK hP hD hS 0 rfl rfl 0 (by decide) (hta _ m_492) (fun _ h9 => h9) rfl (by decide +kernel) rfl rfl (Nat.le_of_ble_eq_true rfl) dM_column_37 (fun H locs hP hD hS => ?_)
        have hP : va_P (dC, dI) vwCl (MW mo km (mTh M 0)) H := hP
        have hD : va_D A (MW mo km (mTh M 0)) := hD
        refine lv_aload_n hx hb dM_column_40 rfl (lv_at hl 0 rfl) ?_
        refine va_get (D := (dC, dI)) (ci := 2) (v := .int (nI 0)) (C := RM) (T := FM) (N := 19) hx hb hta iM hown hK hP 0 rfl rfl 0 (by decide) (hta _ m_492) (fun _ h9 => h9) rfl dM_column_41 ?_
        refine lz_le (tgt := 49) hx hb dM_column_44 (by decide) (fun c_2 => ?_) (fun c_2 => ?_)
        · refine lv_aload_n hx hb dM_column_49 rfl (lv_at hl 0 rfl) ?_
          refine va_get (D := (dC, dI)) (ci := 2) (v := .ref (mo 1)) (C := RM) (T := FM) (N := 19) hx hb hta iM hown hK hP 0 rfl rfl 3 (by decide) (hta _ m_495) (fun _ h9 => h9) rfl dM_column_50 ?_
          refine lv_aload_n hx hb dM_column_53 rfl (lv_at hl 0 rfl) ?_
          refine va_get (D := (dC, dI)) (ci := 2) (v := .int (nI M.co)) (C := RM) (T := FM) (N := 19) hx hb hta iM hown hK hP 0 rfl rfl 2 (by decide) (hta _ m_494) (fun _ h9 => h9) rfl dM_column_54 ?_
          refine lv_lload_n hx hb dM_column_57 rfl (lv_at hl 1 rfl) ?_
          refine na_last hx hb hK hP hD hS 1 0 rfl rfl (i := M.co) (x := v) (by omega) (by decide) dM_column_58 (fun H locs hP hD hS => ?_)
          have hP : va_P (dC, dI) vwCl (MW mo km (ms 0 M.wk M.co (vp_updL M.cs M.co v) M.ro M.ki M.wo M.ri M.fa M.li M.ln M.hr M.st M.dn M.pl M.ou M.ta M.nx M.ag)) H := hP
          have hD : va_D A (MW mo km (ms 0 M.wk M.co (vp_updL M.cs M.co v) M.ro M.ki M.wo M.ri M.fa M.li M.ln M.hr M.st M.dn M.pl M.ou M.ta M.nx M.ag)) := hD
          refine lv_aload_n hx hb dM_column_59 rfl (lv_at hl 0 rfl) ?_
          refine va_get (D := (dC, dI)) (ci := 2) (v := .ref (mo 7)) (C := RM) (T := FM) (N := 19) hx hb hta iM hown hK hP 0 rfl rfl 14 (by decide) (hta _ m_506) (fun _ h9 => h9) rfl dM_column_60 ?_
          refine lv_aload_n hx hb dM_column_63 rfl (lv_at hl 0 rfl) ?_
          refine va_get (D := (dC, dI)) (ci := 2) (v := .int (nI M.co)) (C := RM) (T := FM) (N := 19) hx hb hta iM hown hK hP 0 rfl rfl 2 (by decide) (hta _ m_494) (fun _ h9 => h9) rfl dM_column_64 ?_
          refine lv_aload_n hx hb dM_column_67 rfl (lv_at hl 0 rfl) ?_
          refine va_get (D := (dC, dI)) (ci := 2) (v := .int (nI M.co)) (C := RM) (T := FM) (N := 19) hx hb hta iM hown hK hP 0 rfl rfl 2 (by decide) (hta _ m_494) (fun _ h9 => h9) rfl dM_column_68 ?_
          refine na_iast hx hb hK hP hD hS 7 6 rfl rfl (i := M.co) (x := enc (some M.co)) (by omega) (by decide) dM_column_71 (fun H locs hP hD hS => ?_)
          rw [encF_up] at hP hD
          have hP : va_P (dC, dI) vwCl (MW mo km (ms 0 M.wk M.co (vp_updL M.cs M.co v) M.ro M.ki M.wo M.ri M.fa M.li M.ln M.hr M.st M.dn (va_up M.pl M.co (some M.co)) M.ou M.ta M.nx M.ag)) H := hP
          have hD : va_D A (MW mo km (ms 0 M.wk M.co (vp_updL M.cs M.co v) M.ro M.ki M.wo M.ri M.fa M.li M.ln M.hr M.st M.dn (va_up M.pl M.co (some M.co)) M.ou M.ta M.nx M.ag)) := hD
          refine lv_aload_n hx hb dM_column_72 rfl (lv_at hl 0 rfl) ?_
          refine va_get (D := (dC, dI)) (ci := 2) (v := .ref (mo 8)) (C := RM) (T := FM) (N := 19) hx hb hta iM hown hK hP 0 rfl rfl 15 (by decide) (hta _ m_507) (fun _ h9 => h9) rfl dM_column_73 ?_
          refine lv_aload_n hx hb dM_column_76 rfl (lv_at hl 0 rfl) ?_
          refine va_get (D := (dC, dI)) (ci := 2) (v := .int (nI M.co)) (C := RM) (T := FM) (N := 19) hx hb hta iM hown hK hP 0 rfl rfl 2 (by decide) (hta _ m_494) (fun _ h9 => h9) rfl dM_column_77 ?_
          refine lv_aload_n hx hb dM_column_80 rfl (lv_at hl 0 rfl) ?_
          refine va_get (D := (dC, dI)) (ci := 2) (v := .int (nI M.co)) (C := RM) (T := FM) (N := 19) hx hb hta iM hown hK hP 0 rfl rfl 2 (by decide) (hta _ m_494) (fun _ h9 => h9) rfl dM_column_81 ?_
          refine na_iast hx hb hK hP hD hS 8 7 rfl rfl (i := M.co) (x := nI M.co) (by omega) (by decide) dM_column_84 (fun H locs hP hD hS => ?_)
          rw [nIF_up] at hP hD
          have hP : va_P (dC, dI) vwCl (MW mo km (ms 0 M.wk M.co (vp_updL M.cs M.co v) M.ro M.ki M.wo M.ri M.fa M.li M.ln M.hr M.st M.dn (va_up M.pl M.co (some M.co)) (va_up M.ou M.co M.co) M.ta M.nx M.ag)) H := hP
          have hD : va_D A (MW mo km (ms 0 M.wk M.co (vp_updL M.cs M.co v) M.ro M.ki M.wo M.ri M.fa M.li M.ln M.hr M.st M.dn (va_up M.pl M.co (some M.co)) (va_up M.ou M.co M.co) M.ta M.nx M.ag)) := hD
          refine lv_aload_n hx hb dM_column_85 rfl (lv_at hl 0 rfl) ?_
          refine va_get (D := (dC, dI)) (ci := 2) (v := .ref (mo 9)) (C := RM) (T := FM) (N := 19) hx hb hta iM hown hK hP 0 rfl rfl 16 (by decide) (hta _ m_508) (fun _ h9 => h9) rfl dM_column_86 ?_
          refine lv_sipush (v := nI 468) hx hb dM_column_89 (by decide) ?_
          refine lv_aload_n hx hb dM_column_92 rfl (lv_at hl 0 rfl) ?_
          refine va_get (D := (dC, dI)) (ci := 2) (v := .int (nI M.co)) (C := RM) (T := FM) (N := 19) hx hb hta iM hown hK hP 0 rfl rfl 2 (by decide) (hta _ m_494) (fun _ h9 => h9) rfl dM_column_93 ?_
          refine lv_iadd hx hb dM_column_96 ?_
          refine st_i (y := nI (468 + M.co)) (nI_add _ _) ?_
          refine lv_lload_n hx hb dM_column_97 rfl (lv_at hl 1 rfl) ?_
          refine na_last hx hb hK hP hD hS 9 8 rfl rfl (i := (468 + M.co)) (x := v) (by omega) (by decide) dM_column_98 (fun H locs hP hD hS => ?_)
          have hP : va_P (dC, dI) vwCl (MW mo km (ms 0 M.wk M.co (vp_updL M.cs M.co v) M.ro M.ki M.wo M.ri M.fa M.li M.ln M.hr M.st M.dn (va_up M.pl M.co (some M.co)) (va_up M.ou M.co M.co) (vp_updL M.ta (468 + M.co) v) M.nx M.ag)) H := hP
          have hD : va_D A (MW mo km (ms 0 M.wk M.co (vp_updL M.cs M.co v) M.ro M.ki M.wo M.ri M.fa M.li M.ln M.hr M.st M.dn (va_up M.pl M.co (some M.co)) (va_up M.ou M.co M.co) (vp_updL M.ta (468 + M.co) v) M.nx M.ag)) := hD
          refine lv_aload_n hx hb dM_column_99 rfl (lv_at hl 0 rfl) ?_
          refine lv_dup hx hb dM_column_100 rfl ?_
          refine va_get (D := (dC, dI)) (ci := 2) (v := .int (nI M.co)) (C := RM) (T := FM) (N := 19) hx hb hta iM hown hK hP 0 rfl rfl 2 (by decide) (hta _ m_494) (fun _ h9 => h9) rfl dM_column_101 ?_
          refine lv_iconst (v := nI 1) hx hb dM_column_104 (by decide) ?_
          refine lv_iadd hx hb dM_column_105 ?_
          refine st_i (y := nI (M.co + 1)) (nI_add _ _) ?_
          refine va_put (D := (dC, dI)) (ci := 2) (v := .int (nI (M.co + 1))) (ty := .int) (C := RM) (T := FM) (N := 19) hx hb hta iM tM tM_ok nM hown hK hP hD hS 0 rfl rfl 2 (by decide) (hta _ m_494) (fun _ h9 => h9) rfl (by decide +kernel) rfl rfl (Nat.le_of_ble_eq_true rfl) dM_column_106 (fun H locs hP hD hS => ?_)
          have hP : va_P (dC, dI) vwCl (MW mo km (ms 0 M.wk (M.co + 1) (vp_updL M.cs M.co v) M.ro M.ki M.wo M.ri M.fa M.li M.ln M.hr M.st M.dn (va_up M.pl M.co (some M.co)) (va_up M.ou M.co M.co) (vp_updL M.ta (468 + M.co) v) M.nx M.ag)) H := hP
          have hD : va_D A (MW mo km (ms 0 M.wk (M.co + 1) (vp_updL M.cs M.co v) M.ro M.ki M.wo M.ri M.fa M.li M.ln M.hr M.st M.dn (va_up M.pl M.co (some M.co)) (va_up M.ou M.co M.co) (vp_updL M.ta (468 + M.co) v) M.nx M.ag)) := hD
          refine lv_aload_n hx hb dM_column_109 rfl (lv_at hl 0 rfl) ?_
          refine va_get (D := (dC, dI)) (ci := 2) (v := .int (nI (M.co + 1))) (C := RM) (T := FM) (N := 19) hx hb hta iM hown hK hP 0 rfl rfl 2 (by decide) (hta _ m_494) (fun _ h9 => h9) rfl dM_column_110 ?_
          refine lv_iconst (v := nI 1) hx hb dM_column_113 (by decide) ?_
          refine lv_isub hx hb dM_column_114 ?_
          refine st_i (y := nI M.co) (nI_pred _) ?_
          exact W.iret (v := nI M.co) hx hb hr (fun t ht hW => ⟨congrArg (fun z => Outcome.returned (some (.int z))) (by rw [clM, if_pos eC]), by rw [ht]; exact (by rw [clM, if_pos eC]; exact hP), hS.F ht⟩) hS.2.2 dM_column_115
        · exact absurd c_2 (by decide)
      · refine lv_iconst (v := nI 2) hx hb dM_column_32 (by decide) ?_
        refine lv_goto (tgt := 37) hx hb dM_column_33 (by decide) ?_
        have eC : coC M v = 2 := by first | (simp [coC, h1]; done) | (simp [coC, h1, h2]; done) | (simp [coC, h1, h2, h3]; done)
        refine va_put (D := (dC, dI)) (ci := 2) (v := .int (nI 2)) (ty := .int) (C := RM) (T := FM) (N := 19) hx hb hta iM tM tM_ok nM hown hK hP hD hS 0 rfl rfl 0 (by decide) (hta _ m_492) (fun _ h9 => h9) rfl (by decide +kernel) rfl rfl (Nat.le_of_ble_eq_true rfl) dM_column_37 (fun H locs hP hD hS => ?_)
        have hP : va_P (dC, dI) vwCl (MW mo km (mTh M 2)) H := hP
        have hD : va_D A (MW mo km (mTh M 2)) := hD
        refine lv_aload_n hx hb dM_column_40 rfl (lv_at hl 0 rfl) ?_
        refine va_get (D := (dC, dI)) (ci := 2) (v := .int (nI 2)) (C := RM) (T := FM) (N := 19) hx hb hta iM hown hK hP 0 rfl rfl 0 (by decide) (hta _ m_492) (fun _ h9 => h9) rfl dM_column_41 ?_
        refine lz_le (tgt := 49) hx hb dM_column_44 (by decide) (fun c_3 => ?_) (fun c_3 => ?_)
        · exact absurd c_3 (by decide)
        · refine lv_iconst (v := nI 0) hx hb dM_column_47 (by decide) ?_
          exact W.iret (v := nI 0) hx hb hr (fun t ht hW => ⟨congrArg (fun z => Outcome.returned (some (.int z))) (by rw [clM, if_neg (by rw [eC]; decide)]), by rw [ht]; exact (by rw [clM, if_neg (by rw [eC]; decide), eC]; exact hP), hS.F ht⟩) hS.2.2 dM_column_48
    · refine lv_iconst (v := nI 1) hx hb dM_column_17 (by decide) ?_
      refine lv_goto (tgt := 37) hx hb dM_column_18 (by decide) ?_
      have eC : coC M v = 1 := by first | (simp [coC, h1]; done) | (simp [coC, h1, h2]; done) | (simp [coC, h1, h2, h3]; done)
      refine va_put (D := (dC, dI)) (ci := 2) (v := .int (nI 1)) (ty := .int) (C := RM) (T := FM) (N := 19) hx hb hta iM tM tM_ok nM hown hK hP hD hS 0 rfl rfl 0 (by decide) (hta _ m_492) (fun _ h9 => h9) rfl (by decide +kernel) rfl rfl (Nat.le_of_ble_eq_true rfl) dM_column_37 (fun H locs hP hD hS => ?_)
      have hP : va_P (dC, dI) vwCl (MW mo km (mTh M 1)) H := hP
      have hD : va_D A (MW mo km (mTh M 1)) := hD
      refine lv_aload_n hx hb dM_column_40 rfl (lv_at hl 0 rfl) ?_
      refine va_get (D := (dC, dI)) (ci := 2) (v := .int (nI 1)) (C := RM) (T := FM) (N := 19) hx hb hta iM hown hK hP 0 rfl rfl 0 (by decide) (hta _ m_492) (fun _ h9 => h9) rfl dM_column_41 ?_
      refine lz_le (tgt := 49) hx hb dM_column_44 (by decide) (fun c_4 => ?_) (fun c_4 => ?_)
      · exact absurd c_4 (by decide)
      · refine lv_iconst (v := nI 0) hx hb dM_column_47 (by decide) ?_
        exact W.iret (v := nI 0) hx hb hr (fun t ht hW => ⟨congrArg (fun z => Outcome.returned (some (.int z))) (by rw [clM, if_neg (by rw [eC]; decide)]), by rw [ht]; exact (by rw [clM, if_neg (by rw [eC]; decide), eC]; exact hP), hS.F ht⟩) hS.2.2 dM_column_48

set_option maxHeartbeats 4000000 in
set_option maxRecDepth 100000 in
theorem c_M_row (l : Launch) (dC : Nat → ClassId) (dI : Nat → Nat → Nat) (mo : Nat → Nat) (km : Nat → ClassId) (M : MS) (sz : Nat) (kd wk : Int32) (b : Int64) (hro : M.ro ≤ 12) : Met l yM_row wM_row ({ frames := 1, cells := 0, slots := 0, locals := 25 }) (wPc [.ref (mo 0), .int kd, .int wk, .long b] sz (dC, dI) vwCl (MW mo km M) (MK km) xT) (wQ (some (.int ((rwM M kd wk b).1))) (dC, dI) vwCl (MW mo km ((rwM M kd wk b).2)) (va_A (MW mo km M) sz)) 0 0 (va_A (MW mo km M) sz) := by
  refine Met.ofW (cc := bM_row) (maxL := 5) (ret := (some .int)) (by decide) rfl ?_
  intro p e s m args below meth c s₁ B hml hv
  obtain ⟨rfl, hsz, hP, hK, hD0, hX⟩ := hv
  have hx := B.exec
  have hb := B.bytes
  have hr := B.returns
  have hts := atoms_spec (ws := wM_row) B.pre
  have hta : ∀ w ∈ AW, w.before _ s = true := fun w h => hts w (List.mem_cons_of_mem _ h)
  have hown : s.vm.findClass RM = some m.cls := findClass_of_methodNamed B.named
  have hlocks := B.notSynchronized
  subst hsz
  have hD := hD0.self (sz := s.heap.size)
  generalize hAe : va_A (MW mo km M) s.heap.size = A at hD ⊢
  have hA : ∀ q : Nat, s.heap.size ≤ q → A q := fun q h => by rw [← hAe]; exact Or.inr h
  have hS : va_S A s.heap s.heap [] := va_S.rf
  have hl := lv_entry ([.ref (mo 0), .int kd, .int wk, .long b]) (n := 5) (Nat.le_of_ble_eq_true rfl)
  rw [lg_entry_eq]
  generalize (lg_sl ([.ref (mo 0), .int kd, .int wk, .long b]) ++ List.replicate (5 - (lg_sl ([.ref (mo 0), .int kd, .int wk, .long b])).length) Slot.unset).toArray = ls at hl ⊢
  have hl : lv_has ls 5 [(0, .ref (mo 0)), (1, .int kd), (2, .int wk), (3, .long b)] := hl
  refine lv_aload_n hx hb dM_row_0 rfl (lv_at hl 0 rfl) ?_
  refine lv_aload_n hx hb dM_row_1 rfl (lv_at hl 0 rfl) ?_
  refine va_get (D := (dC, dI)) (ci := 2) (v := .int (nI M.ro)) (C := RM) (T := FM) (N := 19) hx hb hta iM hown hK hP 0 rfl rfl 4 (by decide) (hta _ m_496) (fun _ h9 => h9) rfl dM_row_2 ?_
  refine lv_bipush (v := nI 12) hx hb dM_row_5 (by decide) ?_
  refine ni_ne (tgt := 14) hx hb dM_row_7 (by decide) (by omega) (by omega) (fun h1 => ?_) (fun h1 => ?_)
  · refine lv_iload_n hx hb dM_row_14 rfl (lv_at hl 1 rfl) ?_
    refine lv_i2l (v := kd.toInt64) hx hb dM_row_15 rfl ?_
    refine lv_lconst (v := 0) hx hb dM_row_16 (by decide) ?_
    refine lv_ldc2 (v := 2) hx hb hown (hta _ m_566) dM_row_17 ?_
    refine rd_call (va_runS (As := [.long kd.toInt64, .long 0, .long 2]) (rest := [.ref (mo 0)]) ⟨hx, hb, hml, hown, hta⟩ (c_M_isIn l dC dI mo km kd.toInt64 0 2) (cwS 3 hta (gS m_559 m_560 m_4 m_561) rfl rfl rfl (by decide +kernel) ⟨Nat.le_of_ble_eq_true rfl, Nat.le_of_ble_eq_true rfl⟩) (rd_S xT_ok trivial (hK.sub [] rfl) va_P_nil) rfl rfl hl.1 rfl (lv_room (Nat.le_of_ble_eq_true rfl)) dM_row_20 ⟨Nat.zero_le _, Nat.zero_le _⟩) ?_
    refine W.eq (g2 := F0 m 23 ls [.int (bI (isInB kd.toInt64 0 2)), .ref (mo 0)]) rfl ?_
    refine lb_eq (tgt := 55) hx hb dM_row_23 (by decide) (fun h2 => ?_) (fun h2 => ?_)
    · refine lv_iconst (v := nI 2) hx hb dM_row_55 (by decide) ?_
      refine lv_goto (tgt := 60) hx hb dM_row_56 (by decide) ?_
      have eC : roC M kd wk b = 2 := by first | (simp [roC, h1]; done) | (simp [roC, h1, h2]; done) | (simp [roC, h1, h2, h3]; done) | (simp [roC, h1, h2, h3, h4]; done)
      refine va_put (D := (dC, dI)) (ci := 2) (v := .int (nI 2)) (ty := .int) (C := RM) (T := FM) (N := 19) hx hb hta iM tM tM_ok nM hown hK hP hD hS 0 rfl rfl 0 (by decide) (hta _ m_492) (fun _ h9 => h9) rfl (by decide +kernel) rfl rfl (Nat.le_of_ble_eq_true rfl) dM_row_60 (fun H locs hP hD hS => ?_)
      have hP : va_P (dC, dI) vwCl (MW mo km (mTh M 2)) H := hP
      have hD : va_D A (MW mo km (mTh M 2)) := hD
      refine lv_aload_n hx hb dM_row_63 rfl (lv_at hl 0 rfl) ?_
      refine va_get (D := (dC, dI)) (ci := 2) (v := .int (nI 2)) (C := RM) (T := FM) (N := 19) hx hb hta iM hown hK hP 0 rfl rfl 0 (by decide) (hta _ m_492) (fun _ h9 => h9) rfl dM_row_64 ?_
      refine lz_le (tgt := 74) hx hb dM_row_67 (by decide) (fun c_1 => ?_) (fun c_1 => ?_)
      · exact absurd c_1 (by decide)
      · refine lv_iconst (v := nI 0) hx hb dM_row_70 (by decide) ?_
        refine lv_goto (tgt := 81) hx hb dM_row_71 (by decide) ?_
        exact W.iret (v := nI 0) hx hb hr (fun t ht hW => ⟨congrArg (fun z => Outcome.returned (some (.int z))) (by first | (rw [rwM, if_neg (by rw [eC]; decide)]; done) | (rw [rwM, if_pos eC]; done)), by rw [ht]; exact (by first | (rw [rwM, if_neg (by rw [eC]; decide), eC]; exact hP; done) | (rw [rwM, if_pos eC]; exact hP)), hS.F ht⟩) hS.2.2 dM_row_81
    · refine lv_iload_n hx hb dM_row_26 rfl (lv_at hl 2 rfl) ?_
      refine lv_i2l (v := wk.toInt64) hx hb dM_row_27 rfl ?_
      refine lv_lconst (v := 0) hx hb dM_row_28 (by decide) ?_
      refine lv_aload_n hx hb dM_row_29 rfl (lv_at hl 0 rfl) ?_
      refine va_get (D := (dC, dI)) (ci := 2) (v := .int M.wk) (C := RM) (T := FM) (N := 19) hx hb hta iM hown hK hP 0 rfl rfl 1 (by decide) (hta _ m_493) (fun _ h9 => h9) rfl dM_row_30 ?_
      refine lv_iconst (v := 1) hx hb dM_row_33 (by decide) ?_
      refine lv_isub hx hb dM_row_34 ?_
      refine lv_i2l (v := (M.wk - 1).toInt64) hx hb dM_row_35 rfl ?_
      refine rd_call (va_runS (As := [.long wk.toInt64, .long 0, .long ((M.wk - 1).toInt64)]) (rest := [.ref (mo 0)]) ⟨hx, hb, hml, hown, hta⟩ (c_M_isIn l dC dI mo km wk.toInt64 0 ((M.wk - 1).toInt64)) (cwS 3 hta (gS m_559 m_560 m_4 m_561) rfl rfl rfl (by decide +kernel) ⟨Nat.le_of_ble_eq_true rfl, Nat.le_of_ble_eq_true rfl⟩) (rd_S xT_ok trivial (hK.sub [] rfl) va_P_nil) rfl rfl hl.1 rfl (lv_room (Nat.le_of_ble_eq_true rfl)) dM_row_36 ⟨Nat.zero_le _, Nat.zero_le _⟩) ?_
      refine W.eq (g2 := F0 m 39 ls [.int (bI (isInB wk.toInt64 0 ((M.wk - 1).toInt64))), .ref (mo 0)]) rfl ?_
      refine lb_eq (tgt := 55) hx hb dM_row_39 (by decide) (fun h3 => ?_) (fun h3 => ?_)
      · refine lv_iconst (v := nI 2) hx hb dM_row_55 (by decide) ?_
        refine lv_goto (tgt := 60) hx hb dM_row_56 (by decide) ?_
        have eC : roC M kd wk b = 2 := by first | (simp [roC, h1]; done) | (simp [roC, h1, h2]; done) | (simp [roC, h1, h2, h3]; done) | (simp [roC, h1, h2, h3, h4]; done)
        refine va_put (D := (dC, dI)) (ci := 2) (v := .int (nI 2)) (ty := .int) (C := RM) (T := FM) (N := 19) hx hb hta iM tM tM_ok nM hown hK hP hD hS 0 rfl rfl 0 (by decide) (hta _ m_492) (fun _ h9 => h9) rfl (by decide +kernel) rfl rfl (Nat.le_of_ble_eq_true rfl) dM_row_60 (fun H locs hP hD hS => ?_)
        have hP : va_P (dC, dI) vwCl (MW mo km (mTh M 2)) H := hP
        have hD : va_D A (MW mo km (mTh M 2)) := hD
        refine lv_aload_n hx hb dM_row_63 rfl (lv_at hl 0 rfl) ?_
        refine va_get (D := (dC, dI)) (ci := 2) (v := .int (nI 2)) (C := RM) (T := FM) (N := 19) hx hb hta iM hown hK hP 0 rfl rfl 0 (by decide) (hta _ m_492) (fun _ h9 => h9) rfl dM_row_64 ?_
        refine lz_le (tgt := 74) hx hb dM_row_67 (by decide) (fun c_2 => ?_) (fun c_2 => ?_)
        · exact absurd c_2 (by decide)
        · refine lv_iconst (v := nI 0) hx hb dM_row_70 (by decide) ?_
          refine lv_goto (tgt := 81) hx hb dM_row_71 (by decide) ?_
          exact W.iret (v := nI 0) hx hb hr (fun t ht hW => ⟨congrArg (fun z => Outcome.returned (some (.int z))) (by first | (rw [rwM, if_neg (by rw [eC]; decide)]; done) | (rw [rwM, if_pos eC]; done)), by rw [ht]; exact (by first | (rw [rwM, if_neg (by rw [eC]; decide), eC]; exact hP; done) | (rw [rwM, if_pos eC]; exact hP)), hS.F ht⟩) hS.2.2 dM_row_81
      · refine lv_lload_n hx hb dM_row_42 rfl (lv_at hl 3 rfl) ?_
        refine lv_ldc2 (v := (-1000000)) hx hb hown (hta _ m_567) dM_row_43 ?_
        refine lv_ldc2 (v := 1000000) hx hb hown (hta _ m_568) dM_row_46 ?_
        refine rd_call (va_runS (As := [.long b, .long (-1000000), .long 1000000]) (rest := [.ref (mo 0)]) ⟨hx, hb, hml, hown, hta⟩ (c_M_isIn l dC dI mo km b (-1000000) 1000000) (cwS 3 hta (gS m_559 m_560 m_4 m_561) rfl rfl rfl (by decide +kernel) ⟨Nat.le_of_ble_eq_true rfl, Nat.le_of_ble_eq_true rfl⟩) (rd_S xT_ok trivial (hK.sub [] rfl) va_P_nil) rfl rfl hl.1 rfl (lv_room (Nat.le_of_ble_eq_true rfl)) dM_row_49 ⟨Nat.zero_le _, Nat.zero_le _⟩) ?_
        refine W.eq (g2 := F0 m 52 ls [.int (bI (isInB b (-1000000) 1000000)), .ref (mo 0)]) rfl ?_
        refine lb_ne (tgt := 59) hx hb dM_row_52 (by decide) (fun h4 => ?_) (fun h4 => ?_)
        · refine lv_iconst (v := nI 0) hx hb dM_row_59 (by decide) ?_
          have eC : roC M kd wk b = 0 := by first | (simp [roC, h1]; done) | (simp [roC, h1, h2]; done) | (simp [roC, h1, h2, h3]; done) | (simp [roC, h1, h2, h3, h4]; done)
          refine va_put (D := (dC, dI)) (ci := 2) (v := .int (nI 0)) (ty := .int) (C := RM) (T := FM) (N := 19) hx hb hta iM tM tM_ok nM hown hK hP hD hS 0 rfl rfl 0 (by decide) (hta _ m_492) (fun _ h9 => h9) rfl (by decide +kernel) rfl rfl (Nat.le_of_ble_eq_true rfl) dM_row_60 (fun H locs hP hD hS => ?_)
          have hP : va_P (dC, dI) vwCl (MW mo km (mTh M 0)) H := hP
          have hD : va_D A (MW mo km (mTh M 0)) := hD
          refine lv_aload_n hx hb dM_row_63 rfl (lv_at hl 0 rfl) ?_
          refine va_get (D := (dC, dI)) (ci := 2) (v := .int (nI 0)) (C := RM) (T := FM) (N := 19) hx hb hta iM hown hK hP 0 rfl rfl 0 (by decide) (hta _ m_492) (fun _ h9 => h9) rfl dM_row_64 ?_
          refine lz_le (tgt := 74) hx hb dM_row_67 (by decide) (fun c_3 => ?_) (fun c_3 => ?_)
          · refine lv_aload_n hx hb dM_row_74 rfl (lv_at hl 0 rfl) ?_
            refine lv_iload_n hx hb dM_row_75 rfl (lv_at hl 1 rfl) ?_
            refine lv_iload_n hx hb dM_row_76 rfl (lv_at hl 2 rfl) ?_
            refine lv_lload_n hx hb dM_row_77 rfl (lv_at hl 3 rfl) ?_
            refine wr_call (X := ([] : va_W)) (va_runV (As := [.int kd, .int wk, .long b]) (rest := []) ⟨hx, hb, hml, hown, hta⟩ (c_M_add l dC dI mo km (mTh M 0) H.size kd wk b (show M.ro < 12 by omega)) (cwV 3 hta (gV m_569 m_571 mp_40 m_4 m_572) rfl rfl rfl (by decide +kernel) ⟨Nat.le_of_ble_eq_true rfl, Nat.le_of_ble_eq_true rfl⟩) (wr_V xT_ok trivial hK hP hD (ci := 2) (q0 := 0) rfl rfl) rfl rfl hl.1 rfl (lv_room (Nat.le_of_ble_eq_true rfl)) dM_row_78 ⟨Nat.zero_le _, Nat.zero_le _⟩) hP hD hS hA rfl (fun H locs hP hD hS => ?_)
            have hP : va_P (dC, dI) vwCl (MW mo km (adM (mTh M 0) kd wk b)) H := hP
            have hD : va_D A (MW mo km (adM (mTh M 0) kd wk b)) := hD
            refine W.eq (g2 := F0 m 81 ls [.int (nI M.ro)]) rfl ?_
            exact W.iret (v := nI M.ro) hx hb hr (fun t ht hW => ⟨congrArg (fun z => Outcome.returned (some (.int z))) (by first | (rw [rwM, if_neg (by rw [eC]; decide)]; done) | (rw [rwM, if_pos eC]; done)), by rw [ht]; exact (by first | (rw [rwM, if_neg (by rw [eC]; decide), eC]; exact hP; done) | (rw [rwM, if_pos eC]; exact hP)), hS.F ht⟩) hS.2.2 dM_row_81
          · exact absurd c_3 (by decide)
        · refine lv_iconst (v := nI 2) hx hb dM_row_55 (by decide) ?_
          refine lv_goto (tgt := 60) hx hb dM_row_56 (by decide) ?_
          have eC : roC M kd wk b = 2 := by first | (simp [roC, h1]; done) | (simp [roC, h1, h2]; done) | (simp [roC, h1, h2, h3]; done) | (simp [roC, h1, h2, h3, h4]; done)
          refine va_put (D := (dC, dI)) (ci := 2) (v := .int (nI 2)) (ty := .int) (C := RM) (T := FM) (N := 19) hx hb hta iM tM tM_ok nM hown hK hP hD hS 0 rfl rfl 0 (by decide) (hta _ m_492) (fun _ h9 => h9) rfl (by decide +kernel) rfl rfl (Nat.le_of_ble_eq_true rfl) dM_row_60 (fun H locs hP hD hS => ?_)
          have hP : va_P (dC, dI) vwCl (MW mo km (mTh M 2)) H := hP
          have hD : va_D A (MW mo km (mTh M 2)) := hD
          refine lv_aload_n hx hb dM_row_63 rfl (lv_at hl 0 rfl) ?_
          refine va_get (D := (dC, dI)) (ci := 2) (v := .int (nI 2)) (C := RM) (T := FM) (N := 19) hx hb hta iM hown hK hP 0 rfl rfl 0 (by decide) (hta _ m_492) (fun _ h9 => h9) rfl dM_row_64 ?_
          refine lz_le (tgt := 74) hx hb dM_row_67 (by decide) (fun c_4 => ?_) (fun c_4 => ?_)
          · exact absurd c_4 (by decide)
          · refine lv_iconst (v := nI 0) hx hb dM_row_70 (by decide) ?_
            refine lv_goto (tgt := 81) hx hb dM_row_71 (by decide) ?_
            exact W.iret (v := nI 0) hx hb hr (fun t ht hW => ⟨congrArg (fun z => Outcome.returned (some (.int z))) (by first | (rw [rwM, if_neg (by rw [eC]; decide)]; done) | (rw [rwM, if_pos eC]; done)), by rw [ht]; exact (by first | (rw [rwM, if_neg (by rw [eC]; decide), eC]; exact hP; done) | (rw [rwM, if_pos eC]; exact hP)), hS.F ht⟩) hS.2.2 dM_row_81
  · refine lv_iconst (v := nI 1) hx hb dM_row_10 (by decide) ?_
    refine lv_goto (tgt := 60) hx hb dM_row_11 (by decide) ?_
    have eC : roC M kd wk b = 1 := by first | (simp [roC, h1]; done) | (simp [roC, h1, h2]; done) | (simp [roC, h1, h2, h3]; done) | (simp [roC, h1, h2, h3, h4]; done)
    refine va_put (D := (dC, dI)) (ci := 2) (v := .int (nI 1)) (ty := .int) (C := RM) (T := FM) (N := 19) hx hb hta iM tM tM_ok nM hown hK hP hD hS 0 rfl rfl 0 (by decide) (hta _ m_492) (fun _ h9 => h9) rfl (by decide +kernel) rfl rfl (Nat.le_of_ble_eq_true rfl) dM_row_60 (fun H locs hP hD hS => ?_)
    have hP : va_P (dC, dI) vwCl (MW mo km (mTh M 1)) H := hP
    have hD : va_D A (MW mo km (mTh M 1)) := hD
    refine lv_aload_n hx hb dM_row_63 rfl (lv_at hl 0 rfl) ?_
    refine va_get (D := (dC, dI)) (ci := 2) (v := .int (nI 1)) (C := RM) (T := FM) (N := 19) hx hb hta iM hown hK hP 0 rfl rfl 0 (by decide) (hta _ m_492) (fun _ h9 => h9) rfl dM_row_64 ?_
    refine lz_le (tgt := 74) hx hb dM_row_67 (by decide) (fun c_5 => ?_) (fun c_5 => ?_)
    · exact absurd c_5 (by decide)
    · refine lv_iconst (v := nI 0) hx hb dM_row_70 (by decide) ?_
      refine lv_goto (tgt := 81) hx hb dM_row_71 (by decide) ?_
      exact W.iret (v := nI 0) hx hb hr (fun t ht hW => ⟨congrArg (fun z => Outcome.returned (some (.int z))) (by first | (rw [rwM, if_neg (by rw [eC]; decide)]; done) | (rw [rwM, if_pos eC]; done)), by rw [ht]; exact (by first | (rw [rwM, if_neg (by rw [eC]; decide), eC]; exact hP; done) | (rw [rwM, if_pos eC]; exact hP)), hS.F ht⟩) hS.2.2 dM_row_81

set_option maxHeartbeats 4000000 in
set_option maxRecDepth 100000 in
theorem c_M_value (l : Launch) (dC : Nat → ClassId) (dI : Nat → Nat → Nat) (mo : Nat → Nat) (km : Nat → ClassId) (M : MS) (sz : Nat) (pt : Int32) (hz : gcZ 100 (szR (M.ta 480)) M.dn = true) (hne : ¬ gcL 100 (szR (M.ta 480)) M.dn = 0) : Met l yM_value wM_value ({ frames := 2, cells := 0, slots := 0, locals := 50 }) (wPc [.ref (mo 0), .int pt] sz (dC, dI) vwCl (MW mo km M) (MK km) xT) (wQ (some (.long ((vaM M pt).1))) (dC, dI) vwCl (MW mo km ((vaM M pt).2)) (va_A (MW mo km M) sz)) 0 0 (va_A (MW mo km M) sz) := by
  refine Met.ofW (cc := bM_value) (maxL := 2) (ret := (some .long)) (by decide) rfl ?_
  intro p e s m args below meth c s₁ B hml hv
  obtain ⟨rfl, hsz, hP, hK, hD0, hX⟩ := hv
  have hx := B.exec
  have hb := B.bytes
  have hr := B.returns
  have hts := atoms_spec (ws := wM_value) B.pre
  have hta : ∀ w ∈ AW, w.before _ s = true := fun w h => hts w (List.mem_cons_of_mem _ h)
  have hown : s.vm.findClass RM = some m.cls := findClass_of_methodNamed B.named
  have hlocks := B.notSynchronized
  subst hsz
  have hD := hD0.self (sz := s.heap.size)
  generalize hAe : va_A (MW mo km M) s.heap.size = A at hD ⊢
  have hA : ∀ q : Nat, s.heap.size ≤ q → A q := fun q h => by rw [← hAe]; exact Or.inr h
  have hS : va_S A s.heap s.heap [] := va_S.rf
  have hl := lv_entry ([.ref (mo 0), .int pt]) (n := 2) (Nat.le_of_ble_eq_true rfl)
  rw [lg_entry_eq]
  generalize (lg_sl ([.ref (mo 0), .int pt]) ++ List.replicate (2 - (lg_sl ([.ref (mo 0), .int pt])).length) Slot.unset).toArray = ls at hl ⊢
  have hl : lv_has ls 2 [(0, .ref (mo 0)), (1, .int pt)] := hl
  refine lv_aload_n hx hb dM_value_0 rfl (lv_at hl 0 rfl) ?_
  refine lv_aload_n hx hb dM_value_1 rfl (lv_at hl 0 rfl) ?_
  refine lv_iload_n hx hb dM_value_2 rfl (lv_at hl 1 rfl) ?_
  refine rd_call (va_runV (As := [.int pt]) (rest := [.ref (mo 0)]) ⟨hx, hb, hml, hown, hta⟩ (c_M_isPart l dC dI mo km M pt) (cwV 1 hta (gV m_628 m_630 mp_48 m_4 m_631) rfl rfl rfl (by decide +kernel) ⟨Nat.le_of_ble_eq_true rfl, Nat.le_of_ble_eq_true rfl⟩) (rd_V xT_ok trivial hK hP (ci := 2) (q0 := 0) rfl rfl) rfl rfl hl.1 rfl (lv_room (Nat.le_of_ble_eq_true rfl)) dM_value_3 ⟨Nat.zero_le _, Nat.zero_le _⟩) ?_
  refine W.eq (g2 := F0 m 6 ls [.int (bI (paB pt)), .ref (mo 0)]) rfl ?_
  refine lb_eq (tgt := 13) hx hb dM_value_6 (by decide) (fun h1 => ?_) (fun h1 => ?_)
  · refine lv_iconst (v := nI 1) hx hb dM_value_13 (by decide) ?_
    refine va_put (D := (dC, dI)) (ci := 2) (v := .int (nI 1)) (ty := .int) (C := RM) (T := FM) (N := 19) hx hb hta iM tM tM_ok nM hown hK hP hD hS 0 rfl rfl 0 (by decide) (hta _ m_492) (fun _ h9 => h9) rfl (by decide +kernel) rfl rfl (Nat.le_of_ble_eq_true rfl) dM_value_14 (fun H locs hP hD hS => ?_)
    have hP : va_P (dC, dI) vwCl (MW mo km (mTh M 1)) H := hP
    have hD : va_D A (MW mo km (mTh M 1)) := hD
    refine lv_aload_n hx hb dM_value_17 rfl (lv_at hl 0 rfl) ?_
    refine va_get (D := (dC, dI)) (ci := 2) (v := .int (nI 1)) (C := RM) (T := FM) (N := 19) hx hb hta iM hown hK hP 0 rfl rfl 0 (by decide) (hta _ m_492) (fun _ h9 => h9) rfl dM_value_18 ?_
    refine lz_le (tgt := 28) hx hb dM_value_21 (by decide) (fun c_1 => ?_) (fun c_1 => ?_)
    · exact absurd c_1 (by decide)
    · refine lv_lconst (v := 0) hx hb dM_value_24 (by decide) ?_
      refine lv_goto (tgt := 41) hx hb dM_value_25 (by decide) ?_
      exact W.lret (v := 0) hx hb hr (fun t ht hW => ⟨congrArg (fun z => Outcome.returned (some (.long z))) (by first | (rw [vaM, if_pos h1]; done) | (rw [vaM, if_neg (by rw [h1]; decide)]; done)), by rw [ht]; exact (by first | (rw [vaM, if_pos h1]; exact hP; done) | (rw [vaM, if_neg (by rw [h1]; decide)]; exact hP)), hS.F ht⟩) hS.2.2 dM_value_41
  · refine lv_iconst (v := nI 0) hx hb dM_value_9 (by decide) ?_
    refine lv_goto (tgt := 14) hx hb dM_value_10 (by decide) ?_
    refine va_put (D := (dC, dI)) (ci := 2) (v := .int (nI 0)) (ty := .int) (C := RM) (T := FM) (N := 19) hx hb hta iM tM tM_ok nM hown hK hP hD hS 0 rfl rfl 0 (by decide) (hta _ m_492) (fun _ h9 => h9) rfl (by decide +kernel) rfl rfl (Nat.le_of_ble_eq_true rfl) dM_value_14 (fun H locs hP hD hS => ?_)
    have hP : va_P (dC, dI) vwCl (MW mo km (mTh M 0)) H := hP
    have hD : va_D A (MW mo km (mTh M 0)) := hD
    refine lv_aload_n hx hb dM_value_17 rfl (lv_at hl 0 rfl) ?_
    refine va_get (D := (dC, dI)) (ci := 2) (v := .int (nI 0)) (C := RM) (T := FM) (N := 19) hx hb hta iM hown hK hP 0 rfl rfl 0 (by decide) (hta _ m_492) (fun _ h9 => h9) rfl dM_value_18 ?_
    refine lz_le (tgt := 28) hx hb dM_value_21 (by decide) (fun c_2 => ?_) (fun c_2 => ?_)
    · refine lv_aload_n hx hb dM_value_28 rfl (lv_at hl 0 rfl) ?_
      refine lv_aload_n hx hb dM_value_29 rfl (lv_at hl 0 rfl) ?_
      refine va_get (D := (dC, dI)) (ci := 2) (v := .ref (mo 9)) (C := RM) (T := FM) (N := 19) hx hb hta iM hown hK hP 0 rfl rfl 16 (by decide) (hta _ m_508) (fun _ h9 => h9) rfl dM_value_30 ?_
      refine lv_sipush (v := nI 480) hx hb dM_value_33 (by decide) ?_
      refine na_lald hx hb hK hP 9 8 rfl rfl (i := 480) (by omega) (by decide) dM_value_36 ?_
      refine lv_iload_n hx hb dM_value_37 rfl (lv_at hl 1 rfl) ?_
      refine rd_call (va_runV (As := [.long (M.ta 480), .int pt]) (rest := []) ⟨hx, hb, hml, hown, hta⟩ (c_M_fraction l dC dI mo km (mTh M 0) (M.ta 480) pt hz hne) (cwV 2 hta (gV m_632 m_634 mp_49 m_4 m_635) rfl rfl rfl (by decide +kernel) ⟨Nat.le_of_ble_eq_true rfl, Nat.le_of_ble_eq_true rfl⟩) (rd_V xT_ok trivial hK hP (ci := 2) (q0 := 0) rfl rfl) rfl rfl hl.1 rfl (lv_room (Nat.le_of_ble_eq_true rfl)) dM_value_38 ⟨Nat.zero_le _, Nat.zero_le _⟩) ?_
      refine W.eq (g2 := F0 m 41 ls [.long (frR (M.ta 480) M.dn pt)]) rfl ?_
      exact W.lret (v := frR (M.ta 480) M.dn pt) hx hb hr (fun t ht hW => ⟨congrArg (fun z => Outcome.returned (some (.long z))) (by first | (rw [vaM, if_pos h1]; done) | (rw [vaM, if_neg (by rw [h1]; decide)]; done)), by rw [ht]; exact (by first | (rw [vaM, if_pos h1]; exact hP; done) | (rw [vaM, if_neg (by rw [h1]; decide)]; exact hP)), hS.F ht⟩) hS.2.2 dM_value_41
    · exact absurd c_2 (by decide)

set_option maxHeartbeats 4000000 in
set_option maxRecDepth 100000 in
theorem c_M_steps (l : Launch) (dC : Nat → ClassId) (dI : Nat → Nat → Nat) (mo : Nat → Nat) (km : Nat → ClassId) (M : MS) (sz : Nat)   : Met l yM_steps wM_steps ({ frames := 0, cells := 0, slots := 0, locals := 0 }) (wPc [.ref (mo 0)] sz (dC, dI) vwCl (MW mo km M) (MK km) xT) (wQ (some (.int M.st)) (dC, dI) vwCl (MW mo km (mTh M 0)) (va_A (MW mo km M) sz)) 0 0 (va_A (MW mo km M) sz) := by
  refine Met.ofW (cc := bM_steps) (maxL := 1) (ret := (some .int)) (by decide) rfl ?_
  intro p e s m args below meth c s₁ B hml hv
  obtain ⟨rfl, hsz, hP, hK, hD0, hX⟩ := hv
  have hx := B.exec
  have hb := B.bytes
  have hr := B.returns
  have hts := atoms_spec (ws := wM_steps) B.pre
  have hta : ∀ w ∈ AW, w.before _ s = true := fun w h => hts w (List.mem_cons_of_mem _ h)
  have hown : s.vm.findClass RM = some m.cls := findClass_of_methodNamed B.named
  have hlocks := B.notSynchronized
  subst hsz
  have hD := hD0.self (sz := s.heap.size)
  generalize hAe : va_A (MW mo km M) s.heap.size = A at hD ⊢
  have hA : ∀ q : Nat, s.heap.size ≤ q → A q := fun q h => by rw [← hAe]; exact Or.inr h
  have hS : va_S A s.heap s.heap [] := va_S.rf
  have hl := lv_entry ([.ref (mo 0)]) (n := 1) (Nat.le_of_ble_eq_true rfl)
  rw [lg_entry_eq]
  generalize (lg_sl ([.ref (mo 0)]) ++ List.replicate (1 - (lg_sl ([.ref (mo 0)])).length) Slot.unset).toArray = ls at hl ⊢
  have hl : lv_has ls 1 [(0, .ref (mo 0))] := hl
  refine lv_aload_n hx hb dM_steps_0 rfl (lv_at hl 0 rfl) ?_
  refine lv_iconst (v := nI 0) hx hb dM_steps_1 (by decide) ?_
  refine va_put (D := (dC, dI)) (ci := 2) (v := .int (nI 0)) (ty := .int) (C := RM) (T := FM) (N := 19) hx hb hta iM tM tM_ok nM hown hK hP hD hS 0 rfl rfl 0 (by decide) (hta _ m_492) (fun _ h9 => h9) rfl (by decide +kernel) rfl rfl (Nat.le_of_ble_eq_true rfl) dM_steps_2 (fun H locs hP hD hS => ?_)
  have hP : va_P (dC, dI) vwCl (MW mo km (mTh M 0)) H := hP
  have hD : va_D A (MW mo km (mTh M 0)) := hD
  refine lv_aload_n hx hb dM_steps_5 rfl (lv_at hl 0 rfl) ?_
  refine va_get (D := (dC, dI)) (ci := 2) (v := .int M.st) (C := RM) (T := FM) (N := 19) hx hb hta iM hown hK hP 0 rfl rfl 12 (by decide) (hta _ m_504) (fun _ h9 => h9) rfl dM_steps_6 ?_
  exact W.iret (v := M.st) hx hb hr (fun t ht hW => ⟨rfl, by rw [ht]; exact hP, hS.F ht⟩) hS.2.2 dM_steps_9

set_option maxHeartbeats 4000000 in
set_option maxRecDepth 100000 in
theorem c_M_check (l : Launch) (dC : Nat → ClassId) (dI : Nat → Nat → Nat) (mo : Nat → Nat) (km : Nat → ClassId) (M : MS) (sz : Nat)  (hpl : ∀ v k, M.pl v = some k → k < 12) (hco : M.co ≤ 12) (hro : M.ro ≤ 12) : Met l yM_check wM_check ({ frames := 1, cells := 0, slots := 0, locals := 21 }) (wPc [.ref (mo 0)] sz (dC, dI) vwCl (MW mo km M) (MK km) xT) (wQ (some (.int (nI (ckR M 0 M.ro)))) (dC, dI) vwCl (MW mo km (mTh M 0)) (va_A (MW mo km M) sz)) 0 0 (va_A (MW mo km M) sz) := by
  refine Met.ofW (cc := bM_check) (maxL := 5) (ret := (some .int)) (by decide) rfl ?_
  intro p e s m args below meth c s₁ B hml hv
  obtain ⟨rfl, hsz, hP, hK, hD0, hX⟩ := hv
  have hx := B.exec
  have hb := B.bytes
  have hr := B.returns
  have hts := atoms_spec (ws := wM_check) B.pre
  have hta : ∀ w ∈ AW, w.before _ s = true := fun w h => hts w (List.mem_cons_of_mem _ h)
  have hown : s.vm.findClass RM = some m.cls := findClass_of_methodNamed B.named
  have hlocks := B.notSynchronized
  subst hsz
  have hD := hD0.self (sz := s.heap.size)
  generalize hAe : va_A (MW mo km M) s.heap.size = A at hD ⊢
  have hA : ∀ q : Nat, s.heap.size ≤ q → A q := fun q h => by rw [← hAe]; exact Or.inr h
  have hS : va_S A s.heap s.heap [] := va_S.rf
  have hl := lv_entry ([.ref (mo 0)]) (n := 5) (Nat.le_of_ble_eq_true rfl)
  rw [lg_entry_eq]
  generalize (lg_sl ([.ref (mo 0)]) ++ List.replicate (5 - (lg_sl ([.ref (mo 0)])).length) Slot.unset).toArray = ls at hl ⊢
  have hl : lv_has ls 5 [(0, .ref (mo 0))] := hl
  refine lv_aload_n hx hb dM_check_0 rfl (lv_at hl 0 rfl) ?_
  refine lv_iconst (v := nI 0) hx hb dM_check_1 (by decide) ?_
  refine va_put (D := (dC, dI)) (ci := 2) (v := .int (nI 0)) (ty := .int) (C := RM) (T := FM) (N := 19) hx hb hta iM tM tM_ok nM hown hK hP hD hS 0 rfl rfl 0 (by decide) (hta _ m_492) (fun _ h9 => h9) rfl (by decide +kernel) rfl rfl (Nat.le_of_ble_eq_true rfl) dM_check_2 (fun H locs hP hD hS => ?_)
  have hP : va_P (dC, dI) vwCl (MW mo km (mTh M 0)) H := hP
  have hD : va_D A (MW mo km (mTh M 0)) := hD
  refine lv_iconst (v := nI 0) hx hb dM_check_5 (by decide) ?_
  refine lv_istore_n (lv' := [(1, .int (nI 0)), (0, .ref (mo 0))]) hx hb dM_check_6 rfl hl (by decide) rfl (fun ls hl => ?_)
  have loop7 : ∀ (n : Nat) (i : Nat) (ls : Array Slot), (i + n = M.ro) → (ckR M i n = ckR M 0 M.ro) → lv_has ls 5 [(1, .int (nI i)), (0, .ref (mo 0))] → W p l e (headSpec wM_check ({ frames := 1, cells := 0, slots := 0, locals := 21 })).room s m ([.ref (mo 0)] : List Value).toArray below meth c H locs 0 0 (MQ below (wQ (some (.int (nI (ckR M 0 M.ro)))) (dC, dI) vwCl (MW mo km (mTh M 0)) A) ([.ref (mo 0)] : List Value).toArray s 0 0 A) (F0 m 7 ls []) := by
    intro n
    induction n with
    | zero =>
      intro i ls hn hq hl
      refine lv_iload_n hx hb dM_check_7 rfl (lv_at hl 0 rfl) ?_
      refine lv_aload_n hx hb dM_check_8 rfl (lv_at hl 1 rfl) ?_
      refine va_get (D := (dC, dI)) (ci := 2) (v := .int (nI M.ro)) (C := RM) (T := FM) (N := 19) hx hb hta iM hown hK hP 0 rfl rfl 4 (by decide) (hta _ m_496) (fun _ h9 => h9) rfl dM_check_9 ?_
      refine ni_ge (tgt := 143) hx hb dM_check_12 (by decide) (by omega) (by omega) (fun c_1 => ?_) (fun c_1 => ?_)
      · refine lv_iconst (v := nI 0) hx hb dM_check_143 (by decide) ?_
        exact W.iret (v := nI 0) hx hb hr (fun t ht hW => ⟨congrArg (fun z => Outcome.returned (some (.int z))) (by rw [← hq]; rfl), by rw [ht]; exact hP, hS.F ht⟩) hS.2.2 dM_check_144
      · exfalso; omega
    | succ n ih =>
      intro i ls hn hq hl
      refine lv_iload_n hx hb dM_check_7 rfl (lv_at hl 0 rfl) ?_
      refine lv_aload_n hx hb dM_check_8 rfl (lv_at hl 1 rfl) ?_
      refine va_get (D := (dC, dI)) (ci := 2) (v := .int (nI M.ro)) (C := RM) (T := FM) (N := 19) hx hb hta iM hown hK hP 0 rfl rfl 4 (by decide) (hta _ m_496) (fun _ h9 => h9) rfl dM_check_9 ?_
      refine ni_ge (tgt := 143) hx hb dM_check_12 (by decide) (by omega) (by omega) (fun c_2 => ?_) (fun c_2 => ?_)
      · exfalso; omega
      · refine lv_aload_n hx hb dM_check_15 rfl (lv_at hl 1 rfl) ?_
        refine va_get (D := (dC, dI)) (ci := 2) (v := .long M.dn) (C := RM) (T := FM) (N := 19) hx hb hta iM hown hK hP 0 rfl rfl 13 (by decide) (hta _ m_505) (fun _ h9 => h9) rfl dM_check_16 ?_
        refine lv_lneg hx hb dM_check_19 ?_
        refine lv_aload_n hx hb dM_check_20 rfl (lv_at hl 1 rfl) ?_
        refine va_get (D := (dC, dI)) (ci := 2) (v := .ref (mo 4)) (C := RM) (T := FM) (N := 19) hx hb hta iM hown hK hP 0 rfl rfl 7 (by decide) (hta _ m_499) (fun _ h9 => h9) rfl dM_check_21 ?_
        refine lv_iload_n hx hb dM_check_24 rfl (lv_at hl 0 rfl) ?_
        refine na_lald hx hb hK hP 4 3 rfl rfl (i := i) (by omega) (by decide) dM_check_25 ?_
        refine lv_lmul hx hb dM_check_26 ?_
        refine lv_lstore_n (lv' := [(2, .long ((-M.dn) * (M.ri i))), (1, .int (nI i)), (0, .ref (mo 0))]) hx hb dM_check_27 rfl hl (by decide) rfl (fun ls hl => ?_)
        refine lv_iconst (v := nI 0) hx hb dM_check_28 (by decide) ?_
        refine lv_istore (lv' := [(4, .int (nI 0)), (2, .long ((-M.dn) * (M.ri i))), (1, .int (nI i)), (0, .ref (mo 0))]) hx hb dM_check_29 hl (by decide) rfl (fun ls hl => ?_)
        have loop31 : ∀ (n2 : Nat) (j : Nat) (acc : Int64) (ls : Array Slot), (j + n2 = M.co) → (ckS M i j n2 acc = ckO M i) → lv_has ls 5 [(4, .int (nI j)), (2, .long acc), (1, .int (nI i)), (0, .ref (mo 0))] → W p l e (headSpec wM_check ({ frames := 1, cells := 0, slots := 0, locals := 21 })).room s m ([.ref (mo 0)] : List Value).toArray below meth c H locs 0 0 (MQ below (wQ (some (.int (nI (ckR M 0 M.ro)))) (dC, dI) vwCl (MW mo km (mTh M 0)) A) ([.ref (mo 0)] : List Value).toArray s 0 0 A) (F0 m 31 ls []) := by
          intro n2
          induction n2 with
          | zero =>
            intro j acc ls hn2 hq2 hl
            refine lv_iload hx hb dM_check_31 (lv_at hl 0 rfl) ?_
            refine lv_aload_n hx hb dM_check_33 rfl (lv_at hl 3 rfl) ?_
            refine va_get (D := (dC, dI)) (ci := 2) (v := .int (nI M.co)) (C := RM) (T := FM) (N := 19) hx hb hta iM hown hK hP 0 rfl rfl 2 (by decide) (hta _ m_494) (fun _ h9 => h9) rfl dM_check_34 ?_
            refine ni_ge (tgt := 68) hx hb dM_check_37 (by decide) (by omega) (by omega) (fun c_3 => ?_) (fun c_3 => ?_)
            · have hacc : acc = ckO M i := hq2
              refine lv_aload_n hx hb dM_check_68 rfl (lv_at hl 3 rfl) ?_
              refine va_get (D := (dC, dI)) (ci := 2) (v := .ref (mo 2)) (C := RM) (T := FM) (N := 19) hx hb hta iM hown hK hP 0 rfl rfl 5 (by decide) (hta _ m_497) (fun _ h9 => h9) rfl dM_check_69 ?_
              refine lv_iload_n hx hb dM_check_72 rfl (lv_at hl 2 rfl) ?_
              refine na_iald hx hb hK hP 2 1 rfl rfl (i := i) (by omega) (by decide) dM_check_73 ?_
              refine lv_if_ne (tgt := 91) hx hb dM_check_74 (by decide) (fun h1 => ?_) (fun h1 => ?_)
              · have h1 : ¬ M.ki i = 0 := h1
                refine lv_aload_n hx hb dM_check_91 rfl (lv_at hl 3 rfl) ?_
                refine va_get (D := (dC, dI)) (ci := 2) (v := .ref (mo 2)) (C := RM) (T := FM) (N := 19) hx hb hta iM hown hK hP 0 rfl rfl 5 (by decide) (hta _ m_497) (fun _ h9 => h9) rfl dM_check_92 ?_
                refine lv_iload_n hx hb dM_check_95 rfl (lv_at hl 2 rfl) ?_
                refine na_iald hx hb hK hP 2 1 rfl rfl (i := i) (by omega) (by decide) dM_check_96 ?_
                refine lv_iconst (v := 1) hx hb dM_check_97 (by decide) ?_
                refine lv_icmp_ne (tgt := 115) hx hb dM_check_98 (by decide) (fun h3 => ?_) (fun h3 => ?_)
                · have h3 : ¬ M.ki i = 1 := h3
                  refine lv_lload_n hx hb dM_check_115 rfl (lv_at hl 1 rfl) ?_
                  refine lv_lconst (v := 0) hx hb dM_check_116 (by decide) ?_
                  refine ll_ne (tgt := 125) hx hb dM_check_117 dM_check_118 (by decide) (fun h2 => ?_) (fun h2 => ?_)
                  · refine lv_iconst (v := 0) hx hb dM_check_125 (by decide) ?_
                    have eB : ckB M i = false := by rw [hacc] at h2; first | (simp [ckB, h1, h2]; done) | (simp [ckB, h1, h3, h2]; done)
                    refine lv_istore (lv' := [(4, .int 0), (2, .long acc), (1, .int (nI i)), (0, .ref (mo 0))]) hx hb dM_check_126 hl (by decide) rfl (fun ls hl => ?_)
                    refine lv_iload hx hb dM_check_128 (lv_at hl 0 rfl) ?_
                    refine lv_if_ne (tgt := 137) hx hb dM_check_130 (by decide) (fun c_4 => ?_) (fun c_4 => ?_)
                    · exact absurd c_4 (by decide)
                    · refine lv_iload_n hx hb dM_check_133 rfl (lv_at hl 2 rfl) ?_
                      refine lv_iconst (v := nI 1) hx hb dM_check_134 (by decide) ?_
                      refine lv_iadd hx hb dM_check_135 ?_
                      refine st_i (y := nI (i + 1)) (nI_add _ _) ?_
                      exact W.iret (v := nI (i + 1)) hx hb hr (fun t ht hW => ⟨congrArg (fun z => Outcome.returned (some (.int z))) (by rw [← hq, ckR, if_neg (by rw [eB]; decide)]), by rw [ht]; exact hP, hS.F ht⟩) hS.2.2 dM_check_136
                  · refine lv_iconst (v := 1) hx hb dM_check_121 (by decide) ?_
                    refine lv_goto (tgt := 126) hx hb dM_check_122 (by decide) ?_
                    have eB : ckB M i = true := by rw [hacc] at h2; first | (simp [ckB, h1, h2]; done) | (simp [ckB, h1, h3, h2]; done)
                    refine lv_istore (lv' := [(4, .int 1), (2, .long acc), (1, .int (nI i)), (0, .ref (mo 0))]) hx hb dM_check_126 hl (by decide) rfl (fun ls hl => ?_)
                    refine lv_iload hx hb dM_check_128 (lv_at hl 0 rfl) ?_
                    refine lv_if_ne (tgt := 137) hx hb dM_check_130 (by decide) (fun c_5 => ?_) (fun c_5 => ?_)
                    · refine lv_iinc (v := nI (i + 1)) (lv' := [(1, .int (nI (i + 1))), (4, .int 1), (2, .long acc), (0, .ref (mo 0))]) hx hb dM_check_137 hl (k := 2) rfl (nI_add i 1) (by decide) rfl (fun ls hl => ?_)
                      refine lv_goto (tgt := 7) hx hb dM_check_140 (by decide) ?_
                      exact ih (i + 1) ls (by omega) (by rw [← hq, ckR, if_pos eB]) (lv_sub hl [0, 3] rfl)
                    · exact absurd c_5 (by decide)
                · have h3 : M.ki i = 1 := h3
                  refine lv_lload_n hx hb dM_check_101 rfl (lv_at hl 1 rfl) ?_
                  refine lv_lconst (v := 0) hx hb dM_check_102 (by decide) ?_
                  refine ll_gt (tgt := 111) hx hb dM_check_103 dM_check_104 (by decide) (fun h2 => ?_) (fun h2 => ?_)
                  · refine lv_iconst (v := 0) hx hb dM_check_111 (by decide) ?_
                    refine lv_goto (tgt := 126) hx hb dM_check_112 (by decide) ?_
                    have eB : ckB M i = false := by rw [hacc] at h2; first | (simp [ckB, h1, h2]; done) | (simp [ckB, h1, h3, h2]; done)
                    refine lv_istore (lv' := [(4, .int 0), (2, .long acc), (1, .int (nI i)), (0, .ref (mo 0))]) hx hb dM_check_126 hl (by decide) rfl (fun ls hl => ?_)
                    refine lv_iload hx hb dM_check_128 (lv_at hl 0 rfl) ?_
                    refine lv_if_ne (tgt := 137) hx hb dM_check_130 (by decide) (fun c_6 => ?_) (fun c_6 => ?_)
                    · exact absurd c_6 (by decide)
                    · refine lv_iload_n hx hb dM_check_133 rfl (lv_at hl 2 rfl) ?_
                      refine lv_iconst (v := nI 1) hx hb dM_check_134 (by decide) ?_
                      refine lv_iadd hx hb dM_check_135 ?_
                      refine st_i (y := nI (i + 1)) (nI_add _ _) ?_
                      exact W.iret (v := nI (i + 1)) hx hb hr (fun t ht hW => ⟨congrArg (fun z => Outcome.returned (some (.int z))) (by rw [← hq, ckR, if_neg (by rw [eB]; decide)]), by rw [ht]; exact hP, hS.F ht⟩) hS.2.2 dM_check_136
                  · refine lv_iconst (v := 1) hx hb dM_check_107 (by decide) ?_
                    refine lv_goto (tgt := 126) hx hb dM_check_108 (by decide) ?_
                    have eB : ckB M i = true := by rw [hacc] at h2; first | (simp [ckB, h1, h2]; done) | (simp [ckB, h1, h3, h2]; done)
                    refine lv_istore (lv' := [(4, .int 1), (2, .long acc), (1, .int (nI i)), (0, .ref (mo 0))]) hx hb dM_check_126 hl (by decide) rfl (fun ls hl => ?_)
                    refine lv_iload hx hb dM_check_128 (lv_at hl 0 rfl) ?_
                    refine lv_if_ne (tgt := 137) hx hb dM_check_130 (by decide) (fun c_7 => ?_) (fun c_7 => ?_)
                    · refine lv_iinc (v := nI (i + 1)) (lv' := [(1, .int (nI (i + 1))), (4, .int 1), (2, .long acc), (0, .ref (mo 0))]) hx hb dM_check_137 hl (k := 2) rfl (nI_add i 1) (by decide) rfl (fun ls hl => ?_)
                      refine lv_goto (tgt := 7) hx hb dM_check_140 (by decide) ?_
                      exact ih (i + 1) ls (by omega) (by rw [← hq, ckR, if_pos eB]) (lv_sub hl [0, 3] rfl)
                    · exact absurd c_7 (by decide)
              · have h1 : M.ki i = 0 := h1
                refine lv_lload_n hx hb dM_check_77 rfl (lv_at hl 1 rfl) ?_
                refine lv_lconst (v := 0) hx hb dM_check_78 (by decide) ?_
                refine ll_lt (tgt := 87) hx hb dM_check_79 dM_check_80 (by decide) (fun h2 => ?_) (fun h2 => ?_)
                · refine lv_iconst (v := 0) hx hb dM_check_87 (by decide) ?_
                  refine lv_goto (tgt := 126) hx hb dM_check_88 (by decide) ?_
                  have eB : ckB M i = false := by rw [hacc] at h2; first | (simp [ckB, h1, h2]; done) | (simp [ckB, h1, h3, h2]; done)
                  refine lv_istore (lv' := [(4, .int 0), (2, .long acc), (1, .int (nI i)), (0, .ref (mo 0))]) hx hb dM_check_126 hl (by decide) rfl (fun ls hl => ?_)
                  refine lv_iload hx hb dM_check_128 (lv_at hl 0 rfl) ?_
                  refine lv_if_ne (tgt := 137) hx hb dM_check_130 (by decide) (fun c_8 => ?_) (fun c_8 => ?_)
                  · exact absurd c_8 (by decide)
                  · refine lv_iload_n hx hb dM_check_133 rfl (lv_at hl 2 rfl) ?_
                    refine lv_iconst (v := nI 1) hx hb dM_check_134 (by decide) ?_
                    refine lv_iadd hx hb dM_check_135 ?_
                    refine st_i (y := nI (i + 1)) (nI_add _ _) ?_
                    exact W.iret (v := nI (i + 1)) hx hb hr (fun t ht hW => ⟨congrArg (fun z => Outcome.returned (some (.int z))) (by rw [← hq, ckR, if_neg (by rw [eB]; decide)]), by rw [ht]; exact hP, hS.F ht⟩) hS.2.2 dM_check_136
                · refine lv_iconst (v := 1) hx hb dM_check_83 (by decide) ?_
                  refine lv_goto (tgt := 126) hx hb dM_check_84 (by decide) ?_
                  have eB : ckB M i = true := by rw [hacc] at h2; first | (simp [ckB, h1, h2]; done) | (simp [ckB, h1, h3, h2]; done)
                  refine lv_istore (lv' := [(4, .int 1), (2, .long acc), (1, .int (nI i)), (0, .ref (mo 0))]) hx hb dM_check_126 hl (by decide) rfl (fun ls hl => ?_)
                  refine lv_iload hx hb dM_check_128 (lv_at hl 0 rfl) ?_
                  refine lv_if_ne (tgt := 137) hx hb dM_check_130 (by decide) (fun c_9 => ?_) (fun c_9 => ?_)
                  · refine lv_iinc (v := nI (i + 1)) (lv' := [(1, .int (nI (i + 1))), (4, .int 1), (2, .long acc), (0, .ref (mo 0))]) hx hb dM_check_137 hl (k := 2) rfl (nI_add i 1) (by decide) rfl (fun ls hl => ?_)
                    refine lv_goto (tgt := 7) hx hb dM_check_140 (by decide) ?_
                    exact ih (i + 1) ls (by omega) (by rw [← hq, ckR, if_pos eB]) (lv_sub hl [0, 3] rfl)
                  · exact absurd c_9 (by decide)
            · exfalso; omega
          | succ n2 ih31 =>
            intro j acc ls hn2 hq2 hl
            refine lv_iload hx hb dM_check_31 (lv_at hl 0 rfl) ?_
            refine lv_aload_n hx hb dM_check_33 rfl (lv_at hl 3 rfl) ?_
            refine va_get (D := (dC, dI)) (ci := 2) (v := .int (nI M.co)) (C := RM) (T := FM) (N := 19) hx hb hta iM hown hK hP 0 rfl rfl 2 (by decide) (hta _ m_494) (fun _ h9 => h9) rfl dM_check_34 ?_
            refine ni_ge (tgt := 68) hx hb dM_check_37 (by decide) (by omega) (by omega) (fun c_10 => ?_) (fun c_10 => ?_)
            · exfalso; omega
            · refine lv_lload_n hx hb dM_check_40 rfl (lv_at hl 1 rfl) ?_
              refine lv_aload_n hx hb dM_check_41 rfl (lv_at hl 3 rfl) ?_
              refine va_get (D := (dC, dI)) (ci := 2) (v := .ref (mo 5)) (C := RM) (T := FM) (N := 19) hx hb hta iM hown hK hP 0 rfl rfl 8 (by decide) (hta _ m_500) (fun _ h9 => h9) rfl dM_check_42 ?_
              refine lv_bipush (v := nI 12) hx hb dM_check_45 (by decide) ?_
              refine lv_iload_n hx hb dM_check_47 rfl (lv_at hl 2 rfl) ?_
              refine lv_imul hx hb dM_check_48 ?_
              refine st_i (y := nI (12 * i)) (pk_mul _ _) ?_
              refine lv_iload hx hb dM_check_49 (lv_at hl 0 rfl) ?_
              refine lv_iadd hx hb dM_check_51 ?_
              refine st_i (y := nI ((12 * i) + j)) (nI_add _ _) ?_
              refine na_lald hx hb hK hP 5 4 rfl rfl (i := ((12 * i) + j)) (by omega) (by decide) dM_check_52 ?_
              refine lv_aload_n hx hb dM_check_53 rfl (lv_at hl 3 rfl) ?_
              refine lv_iload hx hb dM_check_54 (lv_at hl 0 rfl) ?_
              refine rd_call (va_runV (As := [.int (nI j)]) (rest := [.long (M.fa ((12 * i) + j)), .long acc]) ⟨hx, hb, hml, hown, hta⟩ (c_M_amount l dC dI mo km (mTh M 0) j (by first | omega | assumption) (by first | omega | assumption)) (cwV 1 hta (gV m_643 m_645 mp_50 m_4 m_646) rfl rfl rfl (by decide +kernel) ⟨Nat.le_of_ble_eq_true rfl, Nat.le_of_ble_eq_true rfl⟩) (rd_V xT_ok trivial hK hP (ci := 2) (q0 := 0) rfl rfl) rfl rfl hl.1 rfl (lv_room (Nat.le_of_ble_eq_true rfl)) dM_check_56 ⟨Nat.zero_le _, Nat.zero_le _⟩) ?_
              refine W.eq (g2 := F0 m 59 ls [.long (amR (mTh M 0) j), .long (M.fa ((12 * i) + j)), .long acc]) rfl ?_
              refine lv_lmul hx hb dM_check_59 ?_
              refine lv_ladd hx hb dM_check_60 ?_
              refine lv_lstore_n (lv' := [(2, .long (acc + ((M.fa ((12 * i) + j)) * (amR (mTh M 0) j)))), (4, .int (nI j)), (1, .int (nI i)), (0, .ref (mo 0))]) hx hb dM_check_61 rfl hl (by decide) rfl (fun ls hl => ?_)
              refine lv_iinc (v := nI (j + 1)) (lv' := [(4, .int (nI (j + 1))), (2, .long (acc + ((M.fa ((12 * i) + j)) * (amR (mTh M 0) j)))), (1, .int (nI i)), (0, .ref (mo 0))]) hx hb dM_check_62 hl (k := 1) rfl (nI_add j 1) (by decide) rfl (fun ls hl => ?_)
              refine lv_goto (tgt := 31) hx hb dM_check_65 (by decide) ?_
              exact ih31 (j + 1) (acc + ((M.fa ((12 * i) + j)) * (amR (mTh M 0) j))) ls (by omega) (by rw [← hq2]; rfl) (lv_sub hl [0, 1, 2, 3] rfl)
        exact loop31 M.co 0 ((-M.dn) * (M.ri i)) ls (by omega) rfl (lv_sub hl [0, 1, 2, 3] rfl)
  exact loop7 M.ro 0 ls (by omega) rfl (lv_sub hl [0, 1] rfl)
