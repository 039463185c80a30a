set_option maxHeartbeats 4000000 in
set_option maxRecDepth 100000 in
theorem c_M_run (l : Launch) (dC : Nat → ClassId) (dI : Nat → Nat → Nat) (mo : Nat → Nat) (km : Nat → ClassId) (M : MS) (sz : Nat) (x : Int32) (hro : M.ro ≤ 12) (J : Nat → MS → Prop) (K : MS → Prop) (hJ : ∀ i M2, J i M2 → M2.ro = M.ro ∧ M2.co ≤ 12 ∧ (∀ v k, M2.pl v = some k → k < 12) ∧ (∀ r v, M2.li r = some v → v < 36) ∧ (i < M2.ro → M2.li i = none → M2.co + M2.ln + lnM M2.ki i ≤ 36)) (hJ0 : J 0 (ruS M)) (hJ1 : ∀ i M2, J i M2 → i < M2.ro → (∃ v, M2.li i = some v) → J (i + 1) M2) (hJ2 : ∀ i M2, J i M2 → i < M2.ro → M2.li i = none → (cmM M2 i).1 = true → J (i + 1) (cmM M2 i).2) (hJK : ∀ M2, J M.ro M2 → K M2) (hKf : ∀ M2, K M2 → M2.co ≤ 12 ∧ (∀ v k, M2.pl v = some k → k < 12) ∧ M2.co + M2.ln ≤ 36 ∧ (∀ k, M2.ou k < 36) ∧ ¬ M2.dn = 0) (hKs : ∀ M2 le q, K M2 → lvR M2 0 (M2.co + M2.ln) = some le → enR M2 le 0 M2.co none = some q → (spM M2 le q).1 = true → K (spM M2 le q).2) : Met l yM_run wM_run ({ frames := 2, cells := 0, slots := 0, locals := 55 }) (wPc [.ref (mo 0), .int x] sz (dC, dI) vwCl (MW mo km M) (MK km) xT) (wQ (some (.int ((ruM M x).1))) (dC, dI) vwCl (MW mo km ((ruM M x).2)) (va_A (MW mo km M) sz)) 0 0 (va_A (MW mo km M) sz) := by
  refine Met.ofW (cc := bM_run) (maxL := 5) (ret := (some .int)) (by decide) rfl ?_
  intro p e s m args below meth c s₁ B hml hv
  obtain ⟨rfl, hsz, hP, hK, hD0, hX⟩ := hv
  have hx := B.exec
  have hb := B.bytes
  have hr := B.returns
  have hts := atoms_spec (ws := wM_run) B.pre
  have hta : ∀ w ∈ AW, w.before _ s = true := fun w h => hts w (List.mem_cons_of_mem _ h)
  have hown : s.vm.findClass RM = some m.cls := findClass_of_methodNamed B.named
  have hlocks := B.notSynchronized
  subst hsz
  have hD := hD0.self (sz := s.heap.size)
  generalize hAe : va_A (MW mo km M) s.heap.size = A at hD ⊢
  have hA : ∀ q : Nat, s.heap.size ≤ q → A q := fun q h => by rw [← hAe]; exact Or.inr h
  have hS : va_S A s.heap s.heap [] := va_S.rf
  have hl := lv_entry ([.ref (mo 0), .int x]) (n := 5) (Nat.le_of_ble_eq_true rfl)
  rw [lg_entry_eq]
  generalize (lg_sl ([.ref (mo 0), .int x]) ++ List.replicate (5 - (lg_sl ([.ref (mo 0), .int x])).length) Slot.unset).toArray = ls at hl ⊢
  have hl : lv_has ls 5 [(0, .ref (mo 0)), (1, .int x)] := hl
  rcases hi9 : idx 1001 x with _ | mo9
  · have hi9n := idx_no9  hi9
    refine lv_aload_n hx hb dM_run_0 rfl (lv_at hl 0 rfl) ?_
    refine lv_iload_n hx hb dM_run_1 rfl (lv_at hl 1 rfl) ?_
    refine lv_i2l (v := x.toInt64) hx hb dM_run_2 rfl ?_
    refine lv_lconst (v := 0) hx hb dM_run_3 (by decide) ?_
    refine lv_ldc2 (v := 1000) hx hb hown (hta _ m_558) dM_run_4 ?_
    refine rd_call (va_runS (As := [.long x.toInt64, .long 0, .long 1000]) (rest := [.ref (mo 0)]) ⟨hx, hb, hml, hown, hta⟩ (c_M_isIn l dC dI mo km x.toInt64 0 1000) (cwS 3 hta (gS m_559 m_560 m_4 m_561) rfl rfl rfl (by decide +kernel) ⟨Nat.le_of_ble_eq_true rfl, Nat.le_of_ble_eq_true rfl⟩) (rd_S xT_ok trivial (hK.sub [] rfl) va_P_nil) rfl rfl hl.1 rfl (lv_room (Nat.le_of_ble_eq_true rfl)) dM_run_7 ⟨Nat.zero_le _, Nat.zero_le _⟩) ?_
    refine W.eq (g2 := F0 m 10 ls [.int (bI (isInB x.toInt64 0 1000)), .ref (mo 0)]) rfl ?_
    refine lb_eq (tgt := 17) hx hb dM_run_10 (by decide) (fun hb9 => ?_) (fun hb9 => ?_)
    · refine lv_iconst (v := nI 1) hx hb dM_run_17 (by decide) ?_
      refine va_put (D := (dC, dI)) (ci := 2) (v := .int (nI 1)) (ty := .int) (C := RM) (T := FM) (N := 19) hx hb hta iM tM tM_ok nM hown hK hP hD hS 0 rfl rfl 0 (by decide) (hta _ m_492) (fun _ h9 => h9) rfl (by decide +kernel) rfl rfl (Nat.le_of_ble_eq_true rfl) dM_run_18 (fun H locs hP hD hS => ?_)
      have hP : va_P (dC, dI) vwCl (MW mo km (mTh M 1)) H := hP
      have hD : va_D A (MW mo km (mTh M 1)) := hD
      refine lv_aload_n hx hb dM_run_21 rfl (lv_at hl 0 rfl) ?_
      refine va_get (D := (dC, dI)) (ci := 2) (v := .int (nI 1)) (C := RM) (T := FM) (N := 19) hx hb hta iM hown hK hP 0 rfl rfl 0 (by decide) (hta _ m_492) (fun _ h9 => h9) rfl dM_run_22 ?_
      refine lz_le (tgt := 30) hx hb dM_run_25 (by decide) (fun c_1 => ?_) (fun c_1 => ?_)
      · exact absurd c_1 (by decide)
      · refine lv_iconst (v := nI 0) hx hb dM_run_28 (by decide) ?_
        exact W.iret (v := nI 0) hx hb hr (fun t ht hW => ⟨congrArg (fun z => Outcome.returned (some (.int z))) (by simp only [ruM, hi9]), by rw [ht]; exact (by simp only [ruM, hi9]; exact hP), hS.F ht⟩) hS.2.2 dM_run_29
    · exact absurd (hi9n.symm.trans hb9) (by decide)
  · have hi9y := idx_yes9  hi9
    obtain ⟨hi9l, hi9e⟩ := idx_some hi9
    rw [hi9e] at hi9y hl
    have hl : lv_has ls 5 [(0, .ref (mo 0)), (1, .int (nI mo9))] := hl
    refine lv_aload_n hx hb dM_run_0 rfl (lv_at hl 0 rfl) ?_
    refine lv_iload_n hx hb dM_run_1 rfl (lv_at hl 1 rfl) ?_
    refine lv_i2l (v := (nI mo9).toInt64) hx hb dM_run_2 rfl ?_
    refine lv_lconst (v := 0) hx hb dM_run_3 (by decide) ?_
    refine lv_ldc2 (v := 1000) hx hb hown (hta _ m_558) dM_run_4 ?_
    refine rd_call (va_runS (As := [.long ((nI mo9).toInt64), .long 0, .long 1000]) (rest := [.ref (mo 0)]) ⟨hx, hb, hml, hown, hta⟩ (c_M_isIn l dC dI mo km ((nI mo9).toInt64) 0 1000) (cwS 3 hta (gS m_559 m_560 m_4 m_561) rfl rfl rfl (by decide +kernel) ⟨Nat.le_of_ble_eq_true rfl, Nat.le_of_ble_eq_true rfl⟩) (rd_S xT_ok trivial (hK.sub [] rfl) va_P_nil) rfl rfl hl.1 rfl (lv_room (Nat.le_of_ble_eq_true rfl)) dM_run_7 ⟨Nat.zero_le _, Nat.zero_le _⟩) ?_
    refine W.eq (g2 := F0 m 10 ls [.int (bI (isInB ((nI mo9).toInt64) 0 1000)), .ref (mo 0)]) rfl ?_
    refine lb_eq (tgt := 17) hx hb dM_run_10 (by decide) (fun hb9 => ?_) (fun hb9 => ?_)
    · exact absurd (hi9y.symm.trans hb9) (by decide)
    · refine lv_iconst (v := nI 0) hx hb dM_run_13 (by decide) ?_
      refine lv_goto (tgt := 18) hx hb dM_run_14 (by decide) ?_
      refine va_put (D := (dC, dI)) (ci := 2) (v := .int (nI 0)) (ty := .int) (C := RM) (T := FM) (N := 19) hx hb hta iM tM tM_ok nM hown hK hP hD hS 0 rfl rfl 0 (by decide) (hta _ m_492) (fun _ h9 => h9) rfl (by decide +kernel) rfl rfl (Nat.le_of_ble_eq_true rfl) dM_run_18 (fun H locs hP hD hS => ?_)
      have hP : va_P (dC, dI) vwCl (MW mo km (mTh M 0)) H := hP
      have hD : va_D A (MW mo km (mTh M 0)) := hD
      refine lv_aload_n hx hb dM_run_21 rfl (lv_at hl 0 rfl) ?_
      refine va_get (D := (dC, dI)) (ci := 2) (v := .int (nI 0)) (C := RM) (T := FM) (N := 19) hx hb hta iM hown hK hP 0 rfl rfl 0 (by decide) (hta _ m_492) (fun _ h9 => h9) rfl dM_run_22 ?_
      refine lz_le (tgt := 30) hx hb dM_run_25 (by decide) (fun c_2 => ?_) (fun c_2 => ?_)
      · refine lv_aload_n hx hb dM_run_30 rfl (lv_at hl 0 rfl) ?_
        refine lv_iconst (v := nI 1) hx hb dM_run_31 (by decide) ?_
        refine va_put (D := (dC, dI)) (ci := 2) (v := .int (nI 1)) (ty := .boolean) (C := RM) (T := FM) (N := 19) hx hb hta iM tM tM_ok nM hown hK hP hD hS 0 rfl rfl 11 (by decide) (hta _ m_503) (fun _ h9 => h9) rfl (by decide +kernel) rfl rfl (Nat.le_of_ble_eq_true rfl) dM_run_32 (fun H locs hP hD hS => ?_)
        have hP : va_P (dC, dI) vwCl (MW mo km (ms 0 M.wk M.co M.cs M.ro M.ki M.wo M.ri M.fa M.li M.ln true M.st M.dn M.pl M.ou M.ta M.nx M.ag)) H := hP
        have hD : va_D A (MW mo km (ms 0 M.wk M.co M.cs M.ro M.ki M.wo M.ri M.fa M.li M.ln true M.st M.dn M.pl M.ou M.ta M.nx M.ag)) := hD
        refine lv_aload_n hx hb dM_run_35 rfl (lv_at hl 0 rfl) ?_
        refine lv_iconst (v := (-1)) hx hb dM_run_36 (by decide) ?_
        refine va_put (D := (dC, dI)) (ci := 2) (v := .int (-1)) (ty := .int) (C := RM) (T := FM) (N := 19) hx hb hta iM tM tM_ok nM hown hK hP hD hS 0 rfl rfl 18 (by decide) (hta _ m_510) (fun _ h9 => h9) rfl (by decide +kernel) rfl rfl (Nat.le_of_ble_eq_true rfl) dM_run_37 (fun H locs hP hD hS => ?_)
        have hP : va_P (dC, dI) vwCl (MW mo km (ms 0 M.wk M.co M.cs M.ro M.ki M.wo M.ri M.fa M.li M.ln true M.st M.dn M.pl M.ou M.ta M.nx none)) H := hP
        have hD : va_D A (MW mo km (ms 0 M.wk M.co M.cs M.ro M.ki M.wo M.ri M.fa M.li M.ln true M.st M.dn M.pl M.ou M.ta M.nx none)) := hD
        refine lv_iconst (v := nI 0) hx hb dM_run_40 (by decide) ?_
        refine lv_istore_n (lv' := [(2, .int (nI 0)), (0, .ref (mo 0)), (1, .int (nI mo9))]) hx hb dM_run_41 rfl hl (by decide) rfl (fun ls hl => ?_)
        have loop42 : ∀ (n : Nat) (i : Nat) (M2 : MS) (H : Heap) (locs : List Loc) (ls : Array Slot), (i + n = M.ro) → (J i M2) → (ruL i n M2 = ruL 0 M.ro (ruS M)) → va_P (dC, dI) vwCl (MW mo km M2) H → va_D A (MW mo km M2) → va_S A s.heap H locs → lv_has ls 5 [(2, .int (nI i)), (0, .ref (mo 0)), (1, .int (nI mo9))] → W p l e (headSpec wM_run ({ frames := 2, cells := 0, slots := 0, locals := 55 })).room s m ([.ref (mo 0), .int x] : List Value).toArray below meth c H locs 0 0 (MQ below (wQ (some (.int ((ruM M x).1))) (dC, dI) vwCl (MW mo km ((ruM M x).2)) A) ([.ref (mo 0), .int x] : List Value).toArray s 0 0 A) (F0 m 42 ls []) := by
          intro n
          induction n with
          | zero =>
            intro i M2 H locs ls hn hj hq hP hD hS hl
            obtain ⟨j1, j2, j3, j4, j5⟩ := hJ i M2 hj
            refine lv_iload_n hx hb dM_run_42 rfl (lv_at hl 0 rfl) ?_
            refine lv_aload_n hx hb dM_run_43 rfl (lv_at hl 1 rfl) ?_
            refine va_get (D := (dC, dI)) (ci := 2) (v := .int (nI M2.ro)) (C := RM) (T := FM) (N := 19) hx hb hta iM hown hK hP 0 rfl rfl 4 (by decide) (hta _ m_496) (fun _ h9 => h9) rfl dM_run_44 ?_
            refine ni_ge (tgt := 76) hx hb dM_run_47 (by decide) (by omega) (by omega) (fun c_3 => ?_) (fun c_3 => ?_)
            · have hk : K M2 := hJK M2 (by rw [← (show i = M.ro by omega)]; exact hj)
              have e9 : ruM M x = ruE mo9 M2 := by simp only [ruM, hi9, ← hq, ruL, if_true]
              refine lv_iload_n hx hb dM_run_76 rfl (lv_at hl 2 rfl) ?_
              refine lv_istore_n (lv' := [(2, .int (nI mo9)), (0, .ref (mo 0)), (1, .int (nI mo9))]) hx hb dM_run_77 rfl hl (by decide) rfl (fun ls hl => ?_)
              have loop78 : ∀ (n : Nat) (lf : Nat) (M2 : MS) (H : Heap) (locs : List Loc) (ls : Array Slot), (lf = n) → (lf ≤ 1000) → (K M2) → (ruE n M2 = ruM M x) → va_P (dC, dI) vwCl (MW mo km M2) H → va_D A (MW mo km M2) → va_S A s.heap H locs → lv_has ls 5 [(2, .int (nI lf)), (0, .ref (mo 0)), (1, .int (nI mo9))] → W p l e (headSpec wM_run ({ frames := 2, cells := 0, slots := 0, locals := 55 })).room s m ([.ref (mo 0), .int x] : List Value).toArray below meth c H locs 0 0 (MQ below (wQ (some (.int ((ruM M x).1))) (dC, dI) vwCl (MW mo km ((ruM M x).2)) A) ([.ref (mo 0), .int x] : List Value).toArray s 0 0 A) (F0 m 78 ls []) := by
                intro n
                induction n with
                | zero =>
                  intro lf M2 H locs ls hn hl9 hk hq hP hD hS hl
                  obtain ⟨k1, k2, k3, k4, k5⟩ := hKf M2 hk
                  refine lv_aload_n hx hb dM_run_78 rfl (lv_at hl 1 rfl) ?_
                  refine rd_call (va_runV (As := []) (rest := []) ⟨hx, hb, hml, hown, hta⟩ (c_M_leaving l dC dI mo km M2 k3 k2) (cwV 0 hta (gV m_611 m_613 mp_45 m_4 m_614) rfl rfl rfl (by decide +kernel) ⟨Nat.le_of_ble_eq_true rfl, Nat.le_of_ble_eq_true rfl⟩) (rd_V xT_ok trivial hK hP (ci := 2) (q0 := 0) rfl rfl) rfl rfl hl.1 rfl (lv_room (Nat.le_of_ble_eq_true rfl)) dM_run_79 ⟨Nat.zero_le _, Nat.zero_le _⟩) ?_
                  refine W.eq (g2 := F0 m 82 ls [.int (enc (lvR M2 0 (M2.co + M2.ln)))]) rfl ?_
                  refine lv_istore_n (lv' := [(3, .int (enc (lvR M2 0 (M2.co + M2.ln)))), (2, .int (nI lf)), (0, .ref (mo 0)), (1, .int (nI mo9))]) hx hb dM_run_82 rfl hl (by decide) rfl (fun ls hl => ?_)
                  refine lv_iload_n hx hb dM_run_83 rfl (lv_at hl 0 rfl) ?_
                  refine lv_iconst (v := (-1)) hx hb dM_run_84 (by decide) ?_
                  refine en_ne (o := (lvR M2 0 (M2.co + M2.ln))) (tgt := 90) hx hb dM_run_85 (by decide) (fun j h => by have := lvR_lt h; omega) (fun le ho1 => ?_) (fun ho1 => ?_)
                  · rw [ho1] at hl
                    have hl : lv_has ls 5 [(3, .int (nI le)), (2, .int (nI lf)), (0, .ref (mo 0)), (1, .int (nI mo9))] := hl
                    have hle := lvR_lt ho1
                    refine lv_aload_n hx hb dM_run_90 rfl (lv_at hl 2 rfl) ?_
                    refine lv_iload_n hx hb dM_run_91 rfl (lv_at hl 0 rfl) ?_
                    refine rd_call (va_runV (As := [.int (nI le)]) (rest := []) ⟨hx, hb, hml, hown, hta⟩ (c_M_entering l dC dI mo km M2 le k1 (by omega) k4) (cwV 1 hta (gV m_615 m_617 mp_46 m_4 m_618) rfl rfl rfl (by decide +kernel) ⟨Nat.le_of_ble_eq_true rfl, Nat.le_of_ble_eq_true rfl⟩) (rd_V xT_ok trivial hK hP (ci := 2) (q0 := 0) rfl rfl) rfl rfl hl.1 rfl (lv_room (Nat.le_of_ble_eq_true rfl)) dM_run_92 ⟨Nat.zero_le _, Nat.zero_le _⟩) ?_
                    refine W.eq (g2 := F0 m 95 ls [.int (enc (enR M2 le 0 M2.co none))]) rfl ?_
                    refine lv_istore (lv' := [(4, .int (enc (enR M2 le 0 M2.co none))), (3, .int (nI le)), (2, .int (nI lf)), (0, .ref (mo 0)), (1, .int (nI mo9))]) hx hb dM_run_95 hl (by decide) rfl (fun ls hl => ?_)
                    refine lv_iload hx hb dM_run_97 (lv_at hl 0 rfl) ?_
                    refine lv_iconst (v := (-1)) hx hb dM_run_99 (by decide) ?_
                    refine en_ne (o := (enR M2 le 0 M2.co none)) (tgt := 110) hx hb dM_run_100 (by decide) (fun j h => by have := enR_lt h (fun q z => nomatch z); omega) (fun q ho2 => ?_) (fun ho2 => ?_)
                    · rw [ho2] at hl
                      have hl : lv_has ls 5 [(4, .int (nI q)), (3, .int (nI le)), (2, .int (nI lf)), (0, .ref (mo 0)), (1, .int (nI mo9))] := hl
                      have hq9 := enR_lt ho2 (fun q z => nomatch z)
                      refine lv_iload_n hx hb dM_run_110 rfl (lv_at hl 2 rfl) ?_
                      refine lv_if_ne (tgt := 116) hx hb dM_run_111 (by decide) (fun h3 => ?_) (fun h3 => ?_)
                      · exact absurd (by rw [hn]; rfl) h3
                      · refine lv_iconst (v := nI 2) hx hb dM_run_114 (by decide) ?_
                        exact W.iret (v := nI 2) hx hb hr (fun t ht hW => ⟨congrArg (fun z => Outcome.returned (some (.int z))) (by rw [← hq]; simp only [ruE, ho1, ho2]), by rw [ht]; exact (by rw [← hq]; simp only [ruE, ho1, ho2]; exact hP), hS.F ht⟩) hS.2.2 dM_run_115
                    · rw [ho2] at hl
                      have hl : lv_has ls 5 [(4, .int (-1)), (3, .int (nI le)), (2, .int (nI lf)), (0, .ref (mo 0)), (1, .int (nI mo9))] := hl
                      refine lv_aload_n hx hb dM_run_103 rfl (lv_at hl 3 rfl) ?_
                      refine lv_iload_n hx hb dM_run_104 rfl (lv_at hl 1 rfl) ?_
                      refine va_put (D := (dC, dI)) (ci := 2) (v := .int (nI le)) (ty := .int) (C := RM) (T := FM) (N := 19) hx hb hta iM tM tM_ok nM hown hK hP hD hS 0 rfl rfl 18 (by decide) (hta _ m_510) (fun _ h9 => h9) rfl (by decide +kernel) rfl rfl (Nat.le_of_ble_eq_true rfl) dM_run_105 (fun H locs hP hD hS => ?_)
                      have hP : va_P (dC, dI) vwCl (MW mo km (ms M2.thr M2.wk M2.co M2.cs M2.ro M2.ki M2.wo M2.ri M2.fa M2.li M2.ln M2.hr M2.st M2.dn M2.pl M2.ou M2.ta M2.nx (some le))) H := hP
                      have hD : va_D A (MW mo km (ms M2.thr M2.wk M2.co M2.cs M2.ro M2.ki M2.wo M2.ri M2.fa M2.li M2.ln M2.hr M2.st M2.dn M2.pl M2.ou M2.ta M2.nx (some le))) := hD
                      refine lv_iconst (v := nI 1) hx hb dM_run_108 (by decide) ?_
                      exact W.iret (v := nI 1) hx hb hr (fun t ht hW => ⟨congrArg (fun z => Outcome.returned (some (.int z))) (by rw [← hq]; simp only [ruE, ho1, ho2]), by rw [ht]; exact (by rw [← hq]; simp only [ruE, ho1, ho2]; exact hP), hS.F ht⟩) hS.2.2 dM_run_109
                  · rw [ho1] at hl
                    have hl : lv_has ls 5 [(3, .int (-1)), (2, .int (nI lf)), (0, .ref (mo 0)), (1, .int (nI mo9))] := hl
                    refine lv_iconst (v := nI 0) hx hb dM_run_88 (by decide) ?_
                    exact W.iret (v := nI 0) hx hb hr (fun t ht hW => ⟨congrArg (fun z => Outcome.returned (some (.int z))) (by rw [← hq]; simp only [ruE, ho1]), by rw [ht]; exact (by rw [← hq]; simp only [ruE, ho1]; exact hP), hS.F ht⟩) hS.2.2 dM_run_89
                | succ n ih =>
                  intro lf M2 H locs ls hn hl9 hk hq hP hD hS hl
                  obtain ⟨k1, k2, k3, k4, k5⟩ := hKf M2 hk
                  refine lv_aload_n hx hb dM_run_78 rfl (lv_at hl 1 rfl) ?_
                  refine rd_call (va_runV (As := []) (rest := []) ⟨hx, hb, hml, hown, hta⟩ (c_M_leaving l dC dI mo km M2 k3 k2) (cwV 0 hta (gV m_611 m_613 mp_45 m_4 m_614) rfl rfl rfl (by decide +kernel) ⟨Nat.le_of_ble_eq_true rfl, Nat.le_of_ble_eq_true rfl⟩) (rd_V xT_ok trivial hK hP (ci := 2) (q0 := 0) rfl rfl) rfl rfl hl.1 rfl (lv_room (Nat.le_of_ble_eq_true rfl)) dM_run_79 ⟨Nat.zero_le _, Nat.zero_le _⟩) ?_
                  refine W.eq (g2 := F0 m 82 ls [.int (enc (lvR M2 0 (M2.co + M2.ln)))]) rfl ?_
                  refine lv_istore_n (lv' := [(3, .int (enc (lvR M2 0 (M2.co + M2.ln)))), (2, .int (nI lf)), (0, .ref (mo 0)), (1, .int (nI mo9))]) hx hb dM_run_82 rfl hl (by decide) rfl (fun ls hl => ?_)
                  refine lv_iload_n hx hb dM_run_83 rfl (lv_at hl 0 rfl) ?_
                  refine lv_iconst (v := (-1)) hx hb dM_run_84 (by decide) ?_
                  refine en_ne (o := (lvR M2 0 (M2.co + M2.ln))) (tgt := 90) hx hb dM_run_85 (by decide) (fun j h => by have := lvR_lt h; omega) (fun le ho1 => ?_) (fun ho1 => ?_)
                  · rw [ho1] at hl
                    have hl : lv_has ls 5 [(3, .int (nI le)), (2, .int (nI lf)), (0, .ref (mo 0)), (1, .int (nI mo9))] := hl
                    have hle := lvR_lt ho1
                    refine lv_aload_n hx hb dM_run_90 rfl (lv_at hl 2 rfl) ?_
                    refine lv_iload_n hx hb dM_run_91 rfl (lv_at hl 0 rfl) ?_
                    refine rd_call (va_runV (As := [.int (nI le)]) (rest := []) ⟨hx, hb, hml, hown, hta⟩ (c_M_entering l dC dI mo km M2 le k1 (by omega) k4) (cwV 1 hta (gV m_615 m_617 mp_46 m_4 m_618) rfl rfl rfl (by decide +kernel) ⟨Nat.le_of_ble_eq_true rfl, Nat.le_of_ble_eq_true rfl⟩) (rd_V xT_ok trivial hK hP (ci := 2) (q0 := 0) rfl rfl) rfl rfl hl.1 rfl (lv_room (Nat.le_of_ble_eq_true rfl)) dM_run_92 ⟨Nat.zero_le _, Nat.zero_le _⟩) ?_
                    refine W.eq (g2 := F0 m 95 ls [.int (enc (enR M2 le 0 M2.co none))]) rfl ?_
                    refine lv_istore (lv' := [(4, .int (enc (enR M2 le 0 M2.co none))), (3, .int (nI le)), (2, .int (nI lf)), (0, .ref (mo 0)), (1, .int (nI mo9))]) hx hb dM_run_95 hl (by decide) rfl (fun ls hl => ?_)
                    refine lv_iload hx hb dM_run_97 (lv_at hl 0 rfl) ?_
                    refine lv_iconst (v := (-1)) hx hb dM_run_99 (by decide) ?_
                    refine en_ne (o := (enR M2 le 0 M2.co none)) (tgt := 110) hx hb dM_run_100 (by decide) (fun j h => by have := enR_lt h (fun q z => nomatch z); omega) (fun q ho2 => ?_) (fun ho2 => ?_)
                    · rw [ho2] at hl
                      have hl : lv_has ls 5 [(4, .int (nI q)), (3, .int (nI le)), (2, .int (nI lf)), (0, .ref (mo 0)), (1, .int (nI mo9))] := hl
                      have hq9 := enR_lt ho2 (fun q z => nomatch z)
                      refine lv_iload_n hx hb dM_run_110 rfl (lv_at hl 2 rfl) ?_
                      refine lv_if_ne (tgt := 116) hx hb dM_run_111 (by decide) (fun h3 => ?_) (fun h3 => ?_)
                      · refine lv_aload_n hx hb dM_run_116 rfl (lv_at hl 3 rfl) ?_
                        refine lv_iload_n hx hb dM_run_117 rfl (lv_at hl 1 rfl) ?_
                        refine lv_iload hx hb dM_run_118 (lv_at hl 0 rfl) ?_
                        refine wr_call (X := ([] : va_W)) (va_runV (As := [.int (nI le), .int (nI q)]) (rest := []) ⟨hx, hb, hml, hown, hta⟩ (c_M_step l dC dI mo km M2 H.size le q k2 k3 (by omega) (by omega) k4 k5) (cwV 2 hta (gV m_620 m_622 mp_47 m_4 m_623) rfl rfl rfl (by decide +kernel) ⟨Nat.le_of_ble_eq_true rfl, Nat.le_of_ble_eq_true rfl⟩) (wr_V xT_ok trivial hK hP hD (ci := 2) (q0 := 0) rfl rfl) rfl rfl hl.1 rfl (lv_room (Nat.le_of_ble_eq_true rfl)) dM_run_120 ⟨Nat.zero_le _, Nat.zero_le _⟩) hP hD hS hA rfl (fun H locs hP hD hS => ?_)
                        have hP : va_P (dC, dI) vwCl (MW mo km ((spM M2 le q).2)) H := hP
                        have hD : va_D A (MW mo km ((spM M2 le q).2)) := hD
                        refine W.eq (g2 := F0 m 123 ls [.int (bI (spM M2 le q).1)]) rfl ?_
                        refine lb_ne (tgt := 128) hx hb dM_run_123 (by decide) (fun h4 => ?_) (fun h4 => ?_)
                        · refine lv_iinc (v := nI n) (lv' := [(2, .int (nI n)), (4, .int (nI q)), (3, .int (nI le)), (0, .ref (mo 0)), (1, .int (nI mo9))]) hx hb dM_run_128 hl (k := 2) rfl (by rw [hn]; exact pk_m1 n) (by decide) rfl (fun ls hl => ?_)
                          refine lv_goto (tgt := 78) hx hb dM_run_131 (by decide) ?_
                          exact ih n (spM M2 le q).2 H locs ls rfl (by omega) (hKs M2 le q hk ho1 ho2 h4) (by rw [← hq]; simp only [ruE, ho1, ho2, h4, if_true]) hP hD hS (lv_sub hl [0, 3, 4] rfl)
                        · refine lv_iconst (v := nI 3) hx hb dM_run_126 (by decide) ?_
                          exact W.iret (v := nI 3) hx hb hr (fun t ht hW => ⟨congrArg (fun z => Outcome.returned (some (.int z))) (by rw [← hq]; simp only [ruE, ho1, ho2, h4, Bool.false_eq_true, if_false]), by rw [ht]; exact (by rw [← hq]; simp only [ruE, ho1, ho2, h4, Bool.false_eq_true, if_false]; exact hP), hS.F ht⟩) hS.2.2 dM_run_127
                      · exact absurd h3 (by rw [hn]; exact nI_ne0 (by omega) (by omega))
                    · rw [ho2] at hl
                      have hl : lv_has ls 5 [(4, .int (-1)), (3, .int (nI le)), (2, .int (nI lf)), (0, .ref (mo 0)), (1, .int (nI mo9))] := hl
                      refine lv_aload_n hx hb dM_run_103 rfl (lv_at hl 3 rfl) ?_
                      refine lv_iload_n hx hb dM_run_104 rfl (lv_at hl 1 rfl) ?_
                      refine va_put (D := (dC, dI)) (ci := 2) (v := .int (nI le)) (ty := .int) (C := RM) (T := FM) (N := 19) hx hb hta iM tM tM_ok nM hown hK hP hD hS 0 rfl rfl 18 (by decide) (hta _ m_510) (fun _ h9 => h9) rfl (by decide +kernel) rfl rfl (Nat.le_of_ble_eq_true rfl) dM_run_105 (fun H locs hP hD hS => ?_)
                      have hP : va_P (dC, dI) vwCl (MW mo km (ms M2.thr M2.wk M2.co M2.cs M2.ro M2.ki M2.wo M2.ri M2.fa M2.li M2.ln M2.hr M2.st M2.dn M2.pl M2.ou M2.ta M2.nx (some le))) H := hP
                      have hD : va_D A (MW mo km (ms M2.thr M2.wk M2.co M2.cs M2.ro M2.ki M2.wo M2.ri M2.fa M2.li M2.ln M2.hr M2.st M2.dn M2.pl M2.ou M2.ta M2.nx (some le))) := hD
                      refine lv_iconst (v := nI 1) hx hb dM_run_108 (by decide) ?_
                      exact W.iret (v := nI 1) hx hb hr (fun t ht hW => ⟨congrArg (fun z => Outcome.returned (some (.int z))) (by rw [← hq]; simp only [ruE, ho1, ho2]), by rw [ht]; exact (by rw [← hq]; simp only [ruE, ho1, ho2]; exact hP), hS.F ht⟩) hS.2.2 dM_run_109
                  · rw [ho1] at hl
                    have hl : lv_has ls 5 [(3, .int (-1)), (2, .int (nI lf)), (0, .ref (mo 0)), (1, .int (nI mo9))] := hl
                    refine lv_iconst (v := nI 0) hx hb dM_run_88 (by decide) ?_
                    exact W.iret (v := nI 0) hx hb hr (fun t ht hW => ⟨congrArg (fun z => Outcome.returned (some (.int z))) (by rw [← hq]; simp only [ruE, ho1]), by rw [ht]; exact (by rw [← hq]; simp only [ruE, ho1]; exact hP), hS.F ht⟩) hS.2.2 dM_run_89
              exact loop78 mo9 mo9 M2 H locs ls rfl (by omega) hk e9.symm hP hD hS (lv_sub hl [0, 1, 2] rfl)
            · exfalso; omega
          | succ n ih =>
            intro i M2 H locs ls hn hj hq hP hD hS hl
            obtain ⟨j1, j2, j3, j4, j5⟩ := hJ i M2 hj
            refine lv_iload_n hx hb dM_run_42 rfl (lv_at hl 0 rfl) ?_
            refine lv_aload_n hx hb dM_run_43 rfl (lv_at hl 1 rfl) ?_
            refine va_get (D := (dC, dI)) (ci := 2) (v := .int (nI M2.ro)) (C := RM) (T := FM) (N := 19) hx hb hta iM hown hK hP 0 rfl rfl 4 (by decide) (hta _ m_496) (fun _ h9 => h9) rfl dM_run_44 ?_
            refine ni_ge (tgt := 76) hx hb dM_run_47 (by decide) (by omega) (by omega) (fun c_4 => ?_) (fun c_4 => ?_)
            · exfalso; omega
            · refine lv_aload_n hx hb dM_run_50 rfl (lv_at hl 1 rfl) ?_
              refine va_get (D := (dC, dI)) (ci := 2) (v := .ref (mo 6)) (C := RM) (T := FM) (N := 19) hx hb hta iM hown hK hP 0 rfl rfl 9 (by decide) (hta _ m_501) (fun _ h9 => h9) rfl dM_run_51 ?_
              refine lv_iload_n hx hb dM_run_54 rfl (lv_at hl 0 rfl) ?_
              refine na_iald hx hb hK hP 6 5 rfl rfl (i := i) (by omega) (by decide) dM_run_55 ?_
              refine W.eq (g2 := F0 m 56 ls [.int (enc (M2.li i))]) rfl ?_
              refine lv_iconst (v := (-1)) hx hb dM_run_56 (by decide) ?_
              refine en_ne (o := (M2.li i)) (tgt := 70) hx hb dM_run_57 (by decide) (fun j h => by have := j4 _ _ h; omega) (fun j_5 ho => ?_) (fun ho => ?_)
              · 
                refine lv_iinc (v := nI (i + 1)) (lv' := [(2, .int (nI (i + 1))), (0, .ref (mo 0)), (1, .int (nI mo9))]) hx hb dM_run_70 hl (k := 0) rfl (nI_add i 1) (by decide) rfl (fun ls hl => ?_)
                refine lv_goto (tgt := 42) hx hb dM_run_73 (by decide) ?_
                exact ih (i + 1) M2 H locs ls (by omega) (hJ1 i M2 hj (by omega) ⟨_, ho⟩) (by rw [← hq, ruL, ho]) hP hD hS (lv_sub hl [0, 1, 2] rfl)
              · refine lv_aload_n hx hb dM_run_60 rfl (lv_at hl 1 rfl) ?_
                refine lv_iload_n hx hb dM_run_61 rfl (lv_at hl 0 rfl) ?_
                refine wr_call (X := ([] : va_W)) (va_runV (As := [.int (nI i)]) (rest := []) ⟨hx, hb, hml, hown, hta⟩ (c_M_comes l dC dI mo km M2 H.size i j3 j2 (by omega) (j5 (by omega) ho)) (cwV 1 hta (gV m_603 m_605 mp_43 m_4 m_606) rfl rfl rfl (by decide +kernel) ⟨Nat.le_of_ble_eq_true rfl, Nat.le_of_ble_eq_true rfl⟩) (wr_V xT_ok trivial hK hP hD (ci := 2) (q0 := 0) rfl rfl) rfl rfl hl.1 rfl (lv_room (Nat.le_of_ble_eq_true rfl)) dM_run_62 ⟨Nat.zero_le _, Nat.zero_le _⟩) hP hD hS hA rfl (fun H locs hP hD hS => ?_)
                have hP : va_P (dC, dI) vwCl (MW mo km ((cmM M2 i).2)) H := hP
                have hD : va_D A (MW mo km ((cmM M2 i).2)) := hD
                refine W.eq (g2 := F0 m 65 ls [.int (bI (cmM M2 i).1)]) rfl ?_
                refine lb_ne (tgt := 70) hx hb dM_run_65 (by decide) (fun h1 => ?_) (fun h1 => ?_)
                · refine lv_iinc (v := nI (i + 1)) (lv' := [(2, .int (nI (i + 1))), (0, .ref (mo 0)), (1, .int (nI mo9))]) hx hb dM_run_70 hl (k := 0) rfl (nI_add i 1) (by decide) rfl (fun ls hl => ?_)
                  refine lv_goto (tgt := 42) hx hb dM_run_73 (by decide) ?_
                  exact ih (i + 1) (cmM M2 i).2 H locs ls (by omega) (hJ2 i M2 hj (by omega) ho h1) (by rw [← hq, ruL, ho]; simp only [h1, if_true]) hP hD hS (lv_sub hl [0, 1, 2] rfl)
                · refine lv_iconst (v := nI 3) hx hb dM_run_68 (by decide) ?_
                  exact W.iret (v := nI 3) hx hb hr (fun t ht hW => ⟨congrArg (fun z => Outcome.returned (some (.int z))) (by simp only [ruM, hi9, ← hq, ruL, ho, h1, Bool.false_eq_true, if_false]), by rw [ht]; exact (by simp only [ruM, hi9, ← hq, ruL, ho, h1, Bool.false_eq_true, if_false]; exact hP), hS.F ht⟩) hS.2.2 dM_run_69
        exact loop42 M.ro 0 (ruS M) H locs ls (by omega) hJ0 rfl hP hD hS (lv_sub hl [0, 1, 2] rfl)
      · exact absurd c_2 (by decide)
