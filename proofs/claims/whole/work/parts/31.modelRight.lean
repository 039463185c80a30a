set_option maxHeartbeats 4000000 in
set_option maxRecDepth 100000 in
theorem c_M_right (l : Launch) (dC : Nat → ClassId) (dI : Nat → Nat → Nat) (mo : Nat → Nat) (km : Nat → ClassId) (M : MS) (sz : Nat) (x : Int32) (v : Int64) (hpl : ∀ v k, M.pl v = some k → k < 12) (hli : ∀ r v, M.li r = some v → v < 36) (hro : M.ro ≤ 12) (hcl : M.co + M.ln ≤ 36) : Met l yM_right wM_right ({ frames := 1, cells := 0, slots := 0, locals := 25 }) (wPc [.ref (mo 0), .int x, .long v] sz (dC, dI) vwCl (MW mo km M) (MK km) xT) (wQ (some (.int (bI (riM M x v).1))) (dC, dI) vwCl (MW mo km ((riM M x v).2)) (va_A (MW mo km M) sz)) 0 0 (va_A (MW mo km M) sz) := by
  refine Met.ofW (cc := bM_right) (maxL := 11) (ret := (some .boolean)) (by decide) rfl ?_
  intro p e s m args below meth c s₁ B hml hv
  obtain ⟨rfl, hsz, hP, hK, hD0, hX⟩ := hv
  have hx := B.exec
  have hb := B.bytes
  have hr := B.returns
  have hts := atoms_spec (ws := wM_right) B.pre
  have hta : ∀ w ∈ AW, w.before _ s = true := fun w h => hts w (List.mem_cons_of_mem _ h)
  have hown : s.vm.findClass RM = some m.cls := findClass_of_methodNamed B.named
  have hlocks := B.notSynchronized
  subst hsz
  have hD := hD0.self (sz := s.heap.size)
  generalize hAe : va_A (MW mo km M) s.heap.size = A at hD ⊢
  have hA : ∀ q : Nat, s.heap.size ≤ q → A q := fun q h => by rw [← hAe]; exact Or.inr h
  have hS : va_S A s.heap s.heap [] := va_S.rf
  have hl := lv_entry ([.ref (mo 0), .int x, .long v]) (n := 11) (Nat.le_of_ble_eq_true rfl)
  rw [lg_entry_eq]
  generalize (lg_sl ([.ref (mo 0), .int x, .long v]) ++ List.replicate (11 - (lg_sl ([.ref (mo 0), .int x, .long v])).length) Slot.unset).toArray = ls at hl ⊢
  have hl : lv_has ls 11 [(0, .ref (mo 0)), (1, .int x), (2, .long v)] := hl
  rcases hi9 : idx M.ro x with _ | r
  · have hi9n := idx_no hro hi9
    refine lv_aload_n hx hb dM_right_0 rfl (lv_at hl 0 rfl) ?_
    refine lv_iload_n hx hb dM_right_1 rfl (lv_at hl 1 rfl) ?_
    refine lv_i2l (v := x.toInt64) hx hb dM_right_2 rfl ?_
    refine lv_lconst (v := 0) hx hb dM_right_3 (by decide) ?_
    refine lv_aload_n hx hb dM_right_4 rfl (lv_at hl 0 rfl) ?_
    refine va_get (D := (dC, dI)) (ci := 2) (v := .int (nI M.ro)) (C := RM) (T := FM) (N := 19) hx hb hta iM hown hK hP 0 rfl rfl 4 (by decide) (hta _ m_496) (fun _ h9 => h9) rfl dM_right_5 ?_
    refine lv_iconst (v := nI 1) hx hb dM_right_8 (by decide) ?_
    refine lv_isub hx hb dM_right_9 ?_
    refine lv_i2l (v := ((nI M.ro) - (nI 1)).toInt64) hx hb dM_right_10 rfl ?_
    refine rd_call (va_runS (As := [.long x.toInt64, .long 0, .long (((nI M.ro) - (nI 1)).toInt64)]) (rest := [.ref (mo 0)]) ⟨hx, hb, hml, hown, hta⟩ (c_M_isIn l dC dI mo km x.toInt64 0 (((nI M.ro) - (nI 1)).toInt64)) (cwS 3 hta (gS m_559 m_560 m_4 m_561) rfl rfl rfl (by decide +kernel) ⟨Nat.le_of_ble_eq_true rfl, Nat.le_of_ble_eq_true rfl⟩) (rd_S xT_ok trivial (hK.sub [] rfl) va_P_nil) rfl rfl hl.1 rfl (lv_room (Nat.le_of_ble_eq_true rfl)) dM_right_11 ⟨Nat.zero_le _, Nat.zero_le _⟩) ?_
    refine W.eq (g2 := F0 m 14 ls [.int (bI (isInB x.toInt64 0 (((nI M.ro) - (nI 1)).toInt64))), .ref (mo 0)]) rfl ?_
    refine lb_ne (tgt := 21) hx hb dM_right_14 (by decide) (fun hb9 => ?_) (fun hb9 => ?_)
    · exact absurd (hi9n.symm.trans hb9) (by decide)
    · refine lv_iconst (v := nI 1) hx hb dM_right_17 (by decide) ?_
      refine lv_goto (tgt := 39) hx hb dM_right_18 (by decide) ?_
      refine va_put (D := (dC, dI)) (ci := 2) (v := .int (nI 1)) (ty := .int) (C := RM) (T := FM) (N := 19) hx hb hta iM tM tM_ok nM hown hK hP hD hS 0 rfl rfl 0 (by decide) (hta _ m_492) (fun _ h9 => h9) rfl (by decide +kernel) rfl rfl (Nat.le_of_ble_eq_true rfl) dM_right_39 (fun H locs hP hD hS => ?_)
      have hP : va_P (dC, dI) vwCl (MW mo km (mTh M 1)) H := hP
      have hD : va_D A (MW mo km (mTh M 1)) := hD
      refine lv_aload_n hx hb dM_right_42 rfl (lv_at hl 0 rfl) ?_
      refine va_get (D := (dC, dI)) (ci := 2) (v := .int (nI 1)) (C := RM) (T := FM) (N := 19) hx hb hta iM hown hK hP 0 rfl rfl 0 (by decide) (hta _ m_492) (fun _ h9 => h9) rfl dM_right_43 ?_
      refine lz_le (tgt := 51) hx hb dM_right_46 (by decide) (fun c_1 => ?_) (fun c_1 => ?_)
      · exact absurd c_1 (by decide)
      · refine lv_iconst (v := 0) hx hb dM_right_49 (by decide) ?_
        exact W.zret (v := 0) hx hb hr (rfl) (fun t ht hW => ⟨congrArg (fun z => Outcome.returned (some (.int z))) (by simp only [riM, hi9]; rfl), by rw [ht]; exact (by simp only [riM, hi9]; exact hP), hS.F ht⟩) hS.2.2 dM_right_50
  · have hi9y := idx_yes hro hi9
    obtain ⟨hi9l, hi9e⟩ := idx_some hi9
    rw [hi9e] at hi9y hl
    have hl : lv_has ls 11 [(0, .ref (mo 0)), (1, .int (nI r)), (2, .long v)] := hl
    refine lv_aload_n hx hb dM_right_0 rfl (lv_at hl 0 rfl) ?_
    refine lv_iload_n hx hb dM_right_1 rfl (lv_at hl 1 rfl) ?_
    refine lv_i2l (v := (nI r).toInt64) hx hb dM_right_2 rfl ?_
    refine lv_lconst (v := 0) hx hb dM_right_3 (by decide) ?_
    refine lv_aload_n hx hb dM_right_4 rfl (lv_at hl 0 rfl) ?_
    refine va_get (D := (dC, dI)) (ci := 2) (v := .int (nI M.ro)) (C := RM) (T := FM) (N := 19) hx hb hta iM hown hK hP 0 rfl rfl 4 (by decide) (hta _ m_496) (fun _ h9 => h9) rfl dM_right_5 ?_
    refine lv_iconst (v := nI 1) hx hb dM_right_8 (by decide) ?_
    refine lv_isub hx hb dM_right_9 ?_
    refine lv_i2l (v := ((nI M.ro) - (nI 1)).toInt64) hx hb dM_right_10 rfl ?_
    refine rd_call (va_runS (As := [.long ((nI r).toInt64), .long 0, .long (((nI M.ro) - (nI 1)).toInt64)]) (rest := [.ref (mo 0)]) ⟨hx, hb, hml, hown, hta⟩ (c_M_isIn l dC dI mo km ((nI r).toInt64) 0 (((nI M.ro) - (nI 1)).toInt64)) (cwS 3 hta (gS m_559 m_560 m_4 m_561) rfl rfl rfl (by decide +kernel) ⟨Nat.le_of_ble_eq_true rfl, Nat.le_of_ble_eq_true rfl⟩) (rd_S xT_ok trivial (hK.sub [] rfl) va_P_nil) rfl rfl hl.1 rfl (lv_room (Nat.le_of_ble_eq_true rfl)) dM_right_11 ⟨Nat.zero_le _, Nat.zero_le _⟩) ?_
    refine W.eq (g2 := F0 m 14 ls [.int (bI (isInB ((nI r).toInt64) 0 (((nI M.ro) - (nI 1)).toInt64))), .ref (mo 0)]) rfl ?_
    refine lb_ne (tgt := 21) hx hb dM_right_14 (by decide) (fun hb9 => ?_) (fun hb9 => ?_)
    · refine lv_lload_n hx hb dM_right_21 rfl (lv_at hl 2 rfl) ?_
      refine lv_ldc2 (v := (-1000000)) hx hb hown (hta _ m_567) dM_right_22 ?_
      refine lv_ldc2 (v := 1000000) hx hb hown (hta _ m_568) dM_right_25 ?_
      refine rd_call (va_runS (As := [.long v, .long (-1000000), .long 1000000]) (rest := [.ref (mo 0)]) ⟨hx, hb, hml, hown, hta⟩ (c_M_isIn l dC dI mo km v (-1000000) 1000000) (cwS 3 hta (gS m_559 m_560 m_4 m_561) rfl rfl rfl (by decide +kernel) ⟨Nat.le_of_ble_eq_true rfl, Nat.le_of_ble_eq_true rfl⟩) (rd_S xT_ok trivial (hK.sub [] rfl) va_P_nil) rfl rfl hl.1 rfl (lv_room (Nat.le_of_ble_eq_true rfl)) dM_right_28 ⟨Nat.zero_le _, Nat.zero_le _⟩) ?_
      refine W.eq (g2 := F0 m 31 ls [.int (bI (isInB v (-1000000) 1000000)), .ref (mo 0)]) rfl ?_
      refine lb_ne (tgt := 38) hx hb dM_right_31 (by decide) (fun h1 => ?_) (fun h1 => ?_)
      · refine lv_iconst (v := nI 0) hx hb dM_right_38 (by decide) ?_
        refine va_put (D := (dC, dI)) (ci := 2) (v := .int (nI 0)) (ty := .int) (C := RM) (T := FM) (N := 19) hx hb hta iM tM tM_ok nM hown hK hP hD hS 0 rfl rfl 0 (by decide) (hta _ m_492) (fun _ h9 => h9) rfl (by decide +kernel) rfl rfl (Nat.le_of_ble_eq_true rfl) dM_right_39 (fun H locs hP hD hS => ?_)
        have hP : va_P (dC, dI) vwCl (MW mo km (mTh M 0)) H := hP
        have hD : va_D A (MW mo km (mTh M 0)) := hD
        refine lv_aload_n hx hb dM_right_42 rfl (lv_at hl 0 rfl) ?_
        refine va_get (D := (dC, dI)) (ci := 2) (v := .int (nI 0)) (C := RM) (T := FM) (N := 19) hx hb hta iM hown hK hP 0 rfl rfl 0 (by decide) (hta _ m_492) (fun _ h9 => h9) rfl dM_right_43 ?_
        refine lz_le (tgt := 51) hx hb dM_right_46 (by decide) (fun c_2 => ?_) (fun c_2 => ?_)
        · refine lv_lload_n hx hb dM_right_51 rfl (lv_at hl 2 rfl) ?_
          refine lv_aload_n hx hb dM_right_52 rfl (lv_at hl 0 rfl) ?_
          refine va_get (D := (dC, dI)) (ci := 2) (v := .ref (mo 4)) (C := RM) (T := FM) (N := 19) hx hb hta iM hown hK hP 0 rfl rfl 7 (by decide) (hta _ m_499) (fun _ h9 => h9) rfl dM_right_53 ?_
          refine lv_iload_n hx hb dM_right_56 rfl (lv_at hl 1 rfl) ?_
          refine na_lald hx hb hK hP 4 3 rfl rfl (i := r) (by omega) (by decide) dM_right_57 ?_
          refine lv_lsub hx hb dM_right_58 ?_
          refine lv_lstore (lv' := [(4, .long (v - (M.ri r))), (0, .ref (mo 0)), (1, .int (nI r)), (2, .long v)]) hx hb dM_right_59 hl (by decide) rfl (fun ls hl => ?_)
          refine lv_aload_n hx hb dM_right_61 rfl (lv_at hl 1 rfl) ?_
          refine va_get (D := (dC, dI)) (ci := 2) (v := .ref (mo 6)) (C := RM) (T := FM) (N := 19) hx hb hta iM hown hK hP 0 rfl rfl 9 (by decide) (hta _ m_501) (fun _ h9 => h9) rfl dM_right_62 ?_
          refine lv_iload_n hx hb dM_right_65 rfl (lv_at hl 2 rfl) ?_
          refine na_iald hx hb hK hP 6 5 rfl rfl (i := r) (by omega) (by decide) dM_right_66 ?_
          refine W.eq (g2 := F0 m 67 ls [.int (enc (M.li r))]) rfl ?_
          refine lv_istore (lv' := [(6, .int (enc (M.li r))), (4, .long (v - (M.ri r))), (0, .ref (mo 0)), (1, .int (nI r)), (2, .long v)]) hx hb dM_right_67 hl (by decide) rfl (fun ls hl => ?_)
          rcases hli9 : M.li r with _ | q
          · rw [hli9] at hl
            have hl : lv_has ls 11 [(6, .int (-1)), (4, .long (v - (M.ri r))), (0, .ref (mo 0)), (1, .int (nI r)), (2, .long v)] := hl
            refine lv_iconst (v := 1) hx hb dM_right_69 (by decide) ?_
            refine lv_istore (lv' := [(7, .int 1), (6, .int (-1)), (4, .long (v - (M.ri r))), (0, .ref (mo 0)), (1, .int (nI r)), (2, .long v)]) hx hb dM_right_70 hl (by decide) rfl (fun ls hl => ?_)
            refine lv_iconst (v := nI 0) hx hb dM_right_72 (by decide) ?_
            refine lv_istore (lv' := [(8, .int (nI 0)), (7, .int 1), (6, .int (-1)), (4, .long (v - (M.ri r))), (0, .ref (mo 0)), (1, .int (nI r)), (2, .long v)]) hx hb dM_right_73 hl (by decide) rfl (fun ls hl => ?_)
            refine lv_iload hx hb dM_right_75 (lv_at hl 2 rfl) ?_
            refine lv_iconst (v := (-1)) hx hb dM_right_77 (by decide) ?_
            refine lv_icmp_eq (tgt := 219) hx hb dM_right_78 (by decide) (fun c_3 => ?_) (fun c_3 => ?_)
            · refine lv_iload hx hb dM_right_219 (lv_at hl 1 rfl) ?_
              refine lv_if_ne (tgt := 226) hx hb dM_right_221 (by decide) (fun c_4 => ?_) (fun c_4 => ?_)
              · refine lv_iconst (v := nI 0) hx hb dM_right_226 (by decide) ?_
                refine lv_istore (lv' := [(8, .int (nI 0)), (7, .int 1), (6, .int (-1)), (4, .long (v - (M.ri r))), (0, .ref (mo 0)), (1, .int (nI r)), (2, .long v)]) hx hb dM_right_227 hl (by decide) rfl (fun ls hl => ?_)
                refine lv_iload hx hb dM_right_229 (lv_at hl 2 rfl) ?_
                refine lv_iconst (v := (-1)) hx hb dM_right_231 (by decide) ?_
                refine lv_icmp_eq (tgt := 277) hx hb dM_right_232 (by decide) (fun c_5 => ?_) (fun c_5 => ?_)
                · refine lv_aload_n hx hb dM_right_277 rfl (lv_at hl 4 rfl) ?_
                  refine va_get (D := (dC, dI)) (ci := 2) (v := .ref (mo 4)) (C := RM) (T := FM) (N := 19) hx hb hta iM hown hK hP 0 rfl rfl 7 (by decide) (hta _ m_499) (fun _ h9 => h9) rfl dM_right_278 ?_
                  refine lv_iload_n hx hb dM_right_281 rfl (lv_at hl 5 rfl) ?_
                  refine lv_lload_n hx hb dM_right_282 rfl (lv_at hl 6 rfl) ?_
                  refine na_last hx hb hK hP hD hS 4 3 rfl rfl (i := r) (x := v) (by omega) (by decide) dM_right_283 (fun H locs hP hD hS => ?_)
                  have hP : va_P (dC, dI) vwCl (MW mo km (ms 0 M.wk M.co M.cs M.ro M.ki M.wo (vp_updL M.ri r v) M.fa M.li M.ln M.hr M.st M.dn M.pl M.ou M.ta M.nx M.ag)) H := hP
                  have hD : va_D A (MW mo km (ms 0 M.wk M.co M.cs M.ro M.ki M.wo (vp_updL M.ri r v) M.fa M.li M.ln M.hr M.st M.dn M.pl M.ou M.ta M.nx M.ag)) := hD
                  refine lv_aload_n hx hb dM_right_284 rfl (lv_at hl 4 rfl) ?_
                  refine lv_iconst (v := (-1)) hx hb dM_right_285 (by decide) ?_
                  refine va_put (D := (dC, dI)) (ci := 2) (v := .int (-1)) (ty := .int) (C := RM) (T := FM) (N := 19) hx hb hta iM tM tM_ok nM hown hK hP hD hS 0 rfl rfl 18 (by decide) (hta _ m_510) (fun _ h9 => h9) rfl (by decide +kernel) rfl rfl (Nat.le_of_ble_eq_true rfl) dM_right_286 (fun H locs hP hD hS => ?_)
                  have hP : va_P (dC, dI) vwCl (MW mo km (ms 0 M.wk M.co M.cs M.ro M.ki M.wo (vp_updL M.ri r v) M.fa M.li M.ln M.hr M.st M.dn M.pl M.ou M.ta M.nx none)) H := hP
                  have hD : va_D A (MW mo km (ms 0 M.wk M.co M.cs M.ro M.ki M.wo (vp_updL M.ri r v) M.fa M.li M.ln M.hr M.st M.dn M.pl M.ou M.ta M.nx none)) := hD
                  refine lv_iconst (v := 1) hx hb dM_right_289 (by decide) ?_
                  exact W.zret (v := 1) hx hb hr (rfl) (fun t ht hW => ⟨congrArg (fun z => Outcome.returned (some (.int z))) (by simp only [riM, hi9, h1, if_true, hli9]; rfl), by rw [ht]; exact (by simp only [riM, hi9, h1, if_true, hli9]; exact hP), hS.F ht⟩) hS.2.2 dM_right_290
                · exact absurd rfl c_5
              · exact absurd c_4 (by decide)
            · exact absurd rfl c_3
          · rw [hli9] at hl
            have hl : lv_has ls 11 [(6, .int (nI q)), (4, .long (v - (M.ri r))), (0, .ref (mo 0)), (1, .int (nI r)), (2, .long v)] := hl
            have hq9 := hli _ _ hli9
            refine lv_iconst (v := 1) hx hb dM_right_69 (by decide) ?_
            refine lv_istore (lv' := [(7, .int 1), (6, .int (nI q)), (4, .long (v - (M.ri r))), (0, .ref (mo 0)), (1, .int (nI r)), (2, .long v)]) hx hb dM_right_70 hl (by decide) rfl (fun ls hl => ?_)
            refine lv_iconst (v := nI 0) hx hb dM_right_72 (by decide) ?_
            refine lv_istore (lv' := [(8, .int (nI 0)), (7, .int 1), (6, .int (nI q)), (4, .long (v - (M.ri r))), (0, .ref (mo 0)), (1, .int (nI r)), (2, .long v)]) hx hb dM_right_73 hl (by decide) rfl (fun ls hl => ?_)
            have loop75 : ∀ (n : Nat) (k : Nat) (tx : Nat → Int64) (f : Bool) (H : Heap) (locs : List Loc) (ls : Array Slot), (k + n = 37) → (rmL M r q (v - M.ri r) k n tx f = rmN M r q (v - M.ri r)) → va_P (dC, dI) vwCl (MW mo km (ms 0 M.wk M.co M.cs M.ro M.ki M.wo M.ri M.fa M.li M.ln M.hr M.st M.dn M.pl M.ou M.ta tx M.ag)) H → va_D A (MW mo km (ms 0 M.wk M.co M.cs M.ro M.ki M.wo M.ri M.fa M.li M.ln M.hr M.st M.dn M.pl M.ou M.ta tx M.ag)) → va_S A s.heap H locs → lv_has ls 11 [(8, .int (nI k)), (7, .int (bI f)), (6, .int (nI q)), (4, .long (v - M.ri r)), (0, .ref (mo 0)), (1, .int (nI r)), (2, .long v)] → W p l e (headSpec wM_right ({ frames := 1, cells := 0, slots := 0, locals := 25 })).room s m ([.ref (mo 0), .int x, .long v] : List Value).toArray below meth c H locs 0 0 (MQ below (wQ (some (.int (bI (riM M x v).1))) (dC, dI) vwCl (MW mo km ((riM M x v).2)) A) ([.ref (mo 0), .int x, .long v] : List Value).toArray s 0 0 A) (F0 m 75 ls []) := by
              intro n
              induction n with
              | zero =>
                intro k tx f H locs ls hn hq hP hD hS hl
                refine lv_iload hx hb dM_right_75 (lv_at hl 2 rfl) ?_
                refine lv_iconst (v := (-1)) hx hb dM_right_77 (by decide) ?_
                refine lv_icmp_eq (tgt := 219) hx hb dM_right_78 (by decide) (fun c_6 => ?_) (fun c_6 => ?_)
                · exact absurd c_6 (enc_some (by omega))
                · refine lv_iload hx hb dM_right_81 (lv_at hl 0 rfl) ?_
                  refine lv_bipush (v := nI 36) hx hb dM_right_83 (by decide) ?_
                  refine ni_gt (tgt := 219) hx hb dM_right_85 (by decide) (by omega) (by omega) (fun c_7 => ?_) (fun c_7 => ?_)
                  · have hq0 : rmN M r q (v - M.ri r) = (tx, f) := hq.symm
                    refine lv_iload hx hb dM_right_219 (lv_at hl 1 rfl) ?_
                    refine lb_ne (tgt := 226) hx hb dM_right_221 (by decide) (fun hf9 => ?_) (fun hf9 => ?_)
                    · have e9 : riM M x v = (true, riT M r v (rmN M r q (v - M.ri r)).1) := by (simp only [riM, hi9, h1, if_true, hli9]; exact if_pos (by rw [hq0]; exact hf9))
                      refine lv_iconst (v := nI 0) hx hb dM_right_226 (by decide) ?_
                      refine lv_istore (lv' := [(8, .int (nI 0)), (7, .int (bI f)), (6, .int (nI q)), (4, .long (v - M.ri r)), (0, .ref (mo 0)), (1, .int (nI r)), (2, .long v)]) hx hb dM_right_227 hl (by decide) rfl (fun ls hl => ?_)
                      have loop229 : ∀ (n : Nat) (k : Nat) (u : Nat → Int64) (H : Heap) (locs : List Loc) (ls : Array Slot), (k + n = 37) → (rcL M tx k n u = rcL M tx 0 37 M.ta) → va_P (dC, dI) vwCl (MW mo km (ms 0 M.wk M.co M.cs M.ro M.ki M.wo M.ri M.fa M.li M.ln M.hr M.st M.dn M.pl M.ou u tx M.ag)) H → va_D A (MW mo km (ms 0 M.wk M.co M.cs M.ro M.ki M.wo M.ri M.fa M.li M.ln M.hr M.st M.dn M.pl M.ou u tx M.ag)) → va_S A s.heap H locs → lv_has ls 11 [(8, .int (nI k)), (6, .int (nI q)), (4, .long (v - M.ri r)), (0, .ref (mo 0)), (1, .int (nI r)), (2, .long v)] → W p l e (headSpec wM_right ({ frames := 1, cells := 0, slots := 0, locals := 25 })).room s m ([.ref (mo 0), .int x, .long v] : List Value).toArray below meth c H locs 0 0 (MQ below (wQ (some (.int (bI (riM M x v).1))) (dC, dI) vwCl (MW mo km ((riM M x v).2)) A) ([.ref (mo 0), .int x, .long v] : List Value).toArray s 0 0 A) (F0 m 229 ls []) := by
                        intro n
                        induction n with
                        | zero =>
                          intro k u H locs ls hn hq5 hP hD hS hl
                          refine lv_iload hx hb dM_right_229 (lv_at hl 1 rfl) ?_
                          refine lv_iconst (v := (-1)) hx hb dM_right_231 (by decide) ?_
                          refine lv_icmp_eq (tgt := 277) hx hb dM_right_232 (by decide) (fun c_8 => ?_) (fun c_8 => ?_)
                          · exact absurd c_8 (enc_some (by omega))
                          · refine lv_iload hx hb dM_right_235 (lv_at hl 0 rfl) ?_
                            refine lv_bipush (v := nI 36) hx hb dM_right_237 (by decide) ?_
                            refine ni_gt (tgt := 277) hx hb dM_right_239 (by decide) (by omega) (by omega) (fun c_9 => ?_) (fun c_9 => ?_)
                            · refine lv_aload_n hx hb dM_right_277 rfl (lv_at hl 3 rfl) ?_
                              refine va_get (D := (dC, dI)) (ci := 2) (v := .ref (mo 4)) (C := RM) (T := FM) (N := 19) hx hb hta iM hown hK hP 0 rfl rfl 7 (by decide) (hta _ m_499) (fun _ h9 => h9) rfl dM_right_278 ?_
                              refine lv_iload_n hx hb dM_right_281 rfl (lv_at hl 4 rfl) ?_
                              refine lv_lload_n hx hb dM_right_282 rfl (lv_at hl 5 rfl) ?_
                              refine na_last hx hb hK hP hD hS 4 3 rfl rfl (i := r) (x := v) (by omega) (by decide) dM_right_283 (fun H locs hP hD hS => ?_)
                              have hP : va_P (dC, dI) vwCl (MW mo km (ms 0 M.wk M.co M.cs M.ro M.ki M.wo (vp_updL M.ri r v) M.fa M.li M.ln M.hr M.st M.dn M.pl M.ou u tx M.ag)) H := hP
                              have hD : va_D A (MW mo km (ms 0 M.wk M.co M.cs M.ro M.ki M.wo (vp_updL M.ri r v) M.fa M.li M.ln M.hr M.st M.dn M.pl M.ou u tx M.ag)) := hD
                              refine lv_aload_n hx hb dM_right_284 rfl (lv_at hl 3 rfl) ?_
                              refine lv_iconst (v := (-1)) hx hb dM_right_285 (by decide) ?_
                              refine va_put (D := (dC, dI)) (ci := 2) (v := .int (-1)) (ty := .int) (C := RM) (T := FM) (N := 19) hx hb hta iM tM tM_ok nM hown hK hP hD hS 0 rfl rfl 18 (by decide) (hta _ m_510) (fun _ h9 => h9) rfl (by decide +kernel) rfl rfl (Nat.le_of_ble_eq_true rfl) dM_right_286 (fun H locs hP hD hS => ?_)
                              have hP : va_P (dC, dI) vwCl (MW mo km (ms 0 M.wk M.co M.cs M.ro M.ki M.wo (vp_updL M.ri r v) M.fa M.li M.ln M.hr M.st M.dn M.pl M.ou u tx none)) H := hP
                              have hD : va_D A (MW mo km (ms 0 M.wk M.co M.cs M.ro M.ki M.wo (vp_updL M.ri r v) M.fa M.li M.ln M.hr M.st M.dn M.pl M.ou u tx none)) := hD
                              refine lv_iconst (v := 1) hx hb dM_right_289 (by decide) ?_
                              exact W.zret (v := 1) hx hb hr (rfl) (fun t ht hW => ⟨congrArg (fun z => Outcome.returned (some (.int z))) (by rw [e9]; rfl), by rw [ht]; exact (by rw [e9, hq0]; simp only [riT]; rw [show rcL M tx 0 37 M.ta = u from hq5.symm]; exact hP), hS.F ht⟩) hS.2.2 dM_right_290
                            · exfalso; omega
                        | succ n ih =>
                          intro k u H locs ls hn hq5 hP hD hS hl
                          refine lv_iload hx hb dM_right_229 (lv_at hl 1 rfl) ?_
                          refine lv_iconst (v := (-1)) hx hb dM_right_231 (by decide) ?_
                          refine lv_icmp_eq (tgt := 277) hx hb dM_right_232 (by decide) (fun c_10 => ?_) (fun c_10 => ?_)
                          · exact absurd c_10 (enc_some (by omega))
                          · refine lv_iload hx hb dM_right_235 (lv_at hl 0 rfl) ?_
                            refine lv_bipush (v := nI 36) hx hb dM_right_237 (by decide) ?_
                            refine ni_gt (tgt := 277) hx hb dM_right_239 (by decide) (by omega) (by omega) (fun c_11 => ?_) (fun c_11 => ?_)
                            · exfalso; omega
                            · refine lv_aload_n hx hb dM_right_242 rfl (lv_at hl 3 rfl) ?_
                              refine lv_iload hx hb dM_right_243 (lv_at hl 0 rfl) ?_
                              refine rd_call (va_runV (As := [.int (nI k)]) (rest := []) ⟨hx, hb, hml, hown, hta⟩ (c_M_isInside l dC dI mo km (ms 0 M.wk M.co M.cs M.ro M.ki M.wo M.ri M.fa M.li M.ln M.hr M.st M.dn M.pl M.ou u tx M.ag) k (by omega) (show M.co + M.ln ≤ 36 from hcl) hpl) (cwV 1 hta (gV m_586 m_588 mp_41 m_4 m_589) rfl rfl rfl (by decide +kernel) ⟨Nat.le_of_ble_eq_true rfl, Nat.le_of_ble_eq_true rfl⟩) (rd_V xT_ok trivial hK hP (ci := 2) (q0 := 0) rfl rfl) rfl rfl hl.1 rfl (lv_room (Nat.le_of_ble_eq_true rfl)) dM_right_245 ⟨Nat.zero_le _, Nat.zero_le _⟩) ?_
                              refine W.eq (g2 := F0 m 248 ls [.int (bI (inB (ms 0 M.wk M.co M.cs M.ro M.ki M.wo M.ri M.fa M.li M.ln M.hr M.st M.dn M.pl M.ou u tx M.ag) k))]) rfl ?_
                              refine lb_eq (tgt := 271) hx hb dM_right_248 (by decide) (fun hi => ?_) (fun hi => ?_)
                              · refine lv_iinc (v := nI (k + 1)) (lv' := [(8, .int (nI (k + 1))), (6, .int (nI q)), (4, .long (v - M.ri r)), (0, .ref (mo 0)), (1, .int (nI r)), (2, .long v)]) hx hb dM_right_271 hl (k := 0) rfl (nI_add k 1) (by decide) rfl (fun ls hl => ?_)
                                refine lv_goto (tgt := 229) hx hb dM_right_274 (by decide) ?_
                                exact ih (k + 1) (u) H locs ls (by omega) (by rw [← hq5, rcL, if_neg (by rw [show inB M k = false from hi]; decide)]) hP hD hS (lv_sub hl [0, 1, 2, 3, 4, 5] rfl)
                              · refine lv_aload_n hx hb dM_right_251 rfl (lv_at hl 3 rfl) ?_
                                refine va_get (D := (dC, dI)) (ci := 2) (v := .ref (mo 9)) (C := RM) (T := FM) (N := 19) hx hb hta iM hown hK hP 0 rfl rfl 16 (by decide) (hta _ m_508) (fun _ h9 => h9) rfl dM_right_252 ?_
                                refine lv_bipush (v := nI 13) hx hb dM_right_255 (by decide) ?_
                                refine lv_iload hx hb dM_right_257 (lv_at hl 0 rfl) ?_
                                refine lv_imul hx hb dM_right_259 ?_
                                refine st_i (y := nI (13 * k)) (pk_mul _ _) ?_
                                refine lv_bipush (v := nI 12) hx hb dM_right_260 (by decide) ?_
                                refine lv_iadd hx hb dM_right_262 ?_
                                refine st_i (y := nI ((13 * k) + 12)) (nI_add _ _) ?_
                                refine lv_aload_n hx hb dM_right_263 rfl (lv_at hl 3 rfl) ?_
                                refine va_get (D := (dC, dI)) (ci := 2) (v := .ref (mo 10)) (C := RM) (T := FM) (N := 19) hx hb hta iM hown hK hP 0 rfl rfl 17 (by decide) (hta _ m_509) (fun _ h9 => h9) rfl dM_right_264 ?_
                                refine lv_iload hx hb dM_right_267 (lv_at hl 0 rfl) ?_
                                refine na_lald hx hb hK hP 10 9 rfl rfl (i := k) (by omega) (by decide) dM_right_269 ?_
                                refine na_last hx hb hK hP hD hS 9 8 rfl rfl (i := ((13 * k) + 12)) (x := tx k) (by omega) (by decide) dM_right_270 (fun H locs hP hD hS => ?_)
                                have hP : va_P (dC, dI) vwCl (MW mo km (ms 0 M.wk M.co M.cs M.ro M.ki M.wo M.ri M.fa M.li M.ln M.hr M.st M.dn M.pl M.ou (vp_updL u ((13 * k) + 12) (tx k)) tx M.ag)) H := hP
                                have hD : va_D A (MW mo km (ms 0 M.wk M.co M.cs M.ro M.ki M.wo M.ri M.fa M.li M.ln M.hr M.st M.dn M.pl M.ou (vp_updL u ((13 * k) + 12) (tx k)) tx M.ag)) := hD
                                refine lv_iinc (v := nI (k + 1)) (lv' := [(8, .int (nI (k + 1))), (6, .int (nI q)), (4, .long (v - M.ri r)), (0, .ref (mo 0)), (1, .int (nI r)), (2, .long v)]) hx hb dM_right_271 hl (k := 0) rfl (nI_add k 1) (by decide) rfl (fun ls hl => ?_)
                                refine lv_goto (tgt := 229) hx hb dM_right_274 (by decide) ?_
                                exact ih (k + 1) (vp_updL u ((13 * k) + 12) (tx k)) H locs ls (by omega) (by rw [← hq5, rcL, if_pos (show inB M k = true from hi)]) hP hD hS (lv_sub hl [0, 1, 2, 3, 4, 5] rfl)
                      exact loop229 37 0 M.ta H locs ls (by omega) rfl hP hD hS (lv_sub hl [0, 2, 3, 4, 5, 6] rfl)
                    · have e9 : riM M x v = (false, riF M (rmN M r q (v - M.ri r)).1) := by (simp only [riM, hi9, h1, if_true, hli9]; exact if_neg (by rw [hq0]; exact fun z => absurd (hf9.symm.trans z) (by decide)))
                      refine lv_iconst (v := 0) hx hb dM_right_224 (by decide) ?_
                      exact W.zret (v := 0) hx hb hr (rfl) (fun t ht hW => ⟨congrArg (fun z => Outcome.returned (some (.int z))) (by rw [e9]; rfl), by rw [ht]; exact (by rw [e9, hq0]; exact hP), hS.F ht⟩) hS.2.2 dM_right_225
                  · exfalso; omega
              | succ n ih =>
                intro k tx f H locs ls hn hq hP hD hS hl
                refine lv_iload hx hb dM_right_75 (lv_at hl 2 rfl) ?_
                refine lv_iconst (v := (-1)) hx hb dM_right_77 (by decide) ?_
                refine lv_icmp_eq (tgt := 219) hx hb dM_right_78 (by decide) (fun c_12 => ?_) (fun c_12 => ?_)
                · exact absurd c_12 (enc_some (by omega))
                · refine lv_iload hx hb dM_right_81 (lv_at hl 0 rfl) ?_
                  refine lv_bipush (v := nI 36) hx hb dM_right_83 (by decide) ?_
                  refine ni_gt (tgt := 219) hx hb dM_right_85 (by decide) (by omega) (by omega) (fun c_13 => ?_) (fun c_13 => ?_)
                  · exfalso; omega
                  · refine lv_aload_n hx hb dM_right_88 rfl (lv_at hl 4 rfl) ?_
                    refine lv_iload hx hb dM_right_89 (lv_at hl 0 rfl) ?_
                    refine rd_call (va_runV (As := [.int (nI k)]) (rest := []) ⟨hx, hb, hml, hown, hta⟩ (c_M_isInside l dC dI mo km (ms 0 M.wk M.co M.cs M.ro M.ki M.wo M.ri M.fa M.li M.ln M.hr M.st M.dn M.pl M.ou M.ta tx M.ag) k (by omega) (show M.co + M.ln ≤ 36 from hcl) hpl) (cwV 1 hta (gV m_586 m_588 mp_41 m_4 m_589) rfl rfl rfl (by decide +kernel) ⟨Nat.le_of_ble_eq_true rfl, Nat.le_of_ble_eq_true rfl⟩) (rd_V xT_ok trivial hK hP (ci := 2) (q0 := 0) rfl rfl) rfl rfl hl.1 rfl (lv_room (Nat.le_of_ble_eq_true rfl)) dM_right_91 ⟨Nat.zero_le _, Nat.zero_le _⟩) ?_
                    refine W.eq (g2 := F0 m 94 ls [.int (bI (inB (ms 0 M.wk M.co M.cs M.ro M.ki M.wo M.ri M.fa M.li M.ln M.hr M.st M.dn M.pl M.ou M.ta tx M.ag) k))]) rfl ?_
                    refine lb_eq (tgt := 213) hx hb dM_right_94 (by decide) (fun hi => ?_) (fun hi => ?_)
                    · refine lv_iinc (v := nI (k + 1)) (lv' := [(8, .int (nI (k + 1))), (7, .int (bI f)), (6, .int (nI q)), (4, .long (v - M.ri r)), (0, .ref (mo 0)), (1, .int (nI r)), (2, .long v)]) hx hb dM_right_213 hl (k := 0) rfl (nI_add k 1) (by decide) rfl (fun ls hl => ?_)
                      refine lv_goto (tgt := 75) hx hb dM_right_216 (by decide) ?_
                      exact ih (k + 1) tx f H locs ls (by omega) (by rw [← hq, rmL, if_neg (by rw [show inB M k = false from hi]; decide)]) hP hD hS (lv_sub hl [0, 1, 2, 3, 4, 5, 6] rfl)
                    · have join131 : ∀ (ls : Array Slot), lv_has ls 11 [(8, .int (nI k)), (7, .int (bI f)), (6, .int (nI q)), (4, .long (v - M.ri r)), (0, .ref (mo 0)), (1, .int (nI r)), (2, .long v)] → W p l e (headSpec wM_right ({ frames := 1, cells := 0, slots := 0, locals := 25 })).room s m ([.ref (mo 0), .int x, .long v] : List Value).toArray below meth c H locs 0 0 (MQ below (wQ (some (.int (bI (riM M x v).1))) (dC, dI) vwCl (MW mo km ((riM M x v).2)) A) ([.ref (mo 0), .int x, .long v] : List Value).toArray s 0 0 A) (F0 m 131 ls [.long (if M.ki r = 1 then mvR M k q (-(v - M.ri r)) else mvR M k q (v - M.ri r))]) := by
                        intro ls hl
                        refine lv_lstore (lv' := [(9, .long (if M.ki r = 1 then mvR M k q (-(v - M.ri r)) else mvR M k q (v - M.ri r))), (8, .int (nI k)), (7, .int (bI f)), (6, .int (nI q)), (4, .long (v - M.ri r)), (0, .ref (mo 0)), (1, .int (nI r)), (2, .long v)]) hx hb dM_right_131 hl (by decide) rfl (fun ls hl => ?_)
                        refine lv_lload hx hb dM_right_133 (lv_at hl 0 rfl) ?_
                        have join162 : ∀ (ls : Array Slot), lv_has ls 11 [(9, .long (if M.ki r = 1 then mvR M k q (-(v - M.ri r)) else mvR M k q (v - M.ri r))), (8, .int (nI k)), (7, .int (bI f)), (6, .int (nI q)), (4, .long (v - M.ri r)), (0, .ref (mo 0)), (1, .int (nI r)), (2, .long v)] → W p l e (headSpec wM_right ({ frames := 1, cells := 0, slots := 0, locals := 25 })).room s m ([.ref (mo 0), .int x, .long v] : List Value).toArray below meth c H locs 0 0 (MQ below (wQ (some (.int (bI (riM M x v).1))) (dC, dI) vwCl (MW mo km ((riM M x v).2)) A) ([.ref (mo 0), .int x, .long v] : List Value).toArray s 0 0 A) (F0 m 162 ls [.long (if M.ki r = 2 then mvR M k (q + 1) (-(v - M.ri r)) else 0), .long (if M.ki r = 1 then mvR M k q (-(v - M.ri r)) else mvR M k q (v - M.ri r))]) := by
                          intro ls hl
                          refine lv_ladd hx hb dM_right_162 ?_
                          refine lv_lstore (lv' := [(9, .long ((if M.ki r = 1 then mvR M k q (-(v - M.ri r)) else mvR M k q (v - M.ri r)) + (if M.ki r = 2 then mvR M k (q + 1) (-(v - M.ri r)) else 0))), (8, .int (nI k)), (7, .int (bI f)), (6, .int (nI q)), (4, .long (v - M.ri r)), (0, .ref (mo 0)), (1, .int (nI r)), (2, .long v)]) hx hb dM_right_163 hl (by decide) rfl (fun ls hl => ?_)
                          refine lv_aload_n hx hb dM_right_165 rfl (lv_at hl 5 rfl) ?_
                          refine va_get (D := (dC, dI)) (ci := 2) (v := .ref (mo 10)) (C := RM) (T := FM) (N := 19) hx hb hta iM hown hK hP 0 rfl rfl 17 (by decide) (hta _ m_509) (fun _ h9 => h9) rfl dM_right_166 ?_
                          refine lv_iload hx hb dM_right_169 (lv_at hl 1 rfl) ?_
                          refine lv_aload_n hx hb dM_right_171 rfl (lv_at hl 5 rfl) ?_
                          refine va_get (D := (dC, dI)) (ci := 2) (v := .ref (mo 9)) (C := RM) (T := FM) (N := 19) hx hb hta iM hown hK hP 0 rfl rfl 16 (by decide) (hta _ m_508) (fun _ h9 => h9) rfl dM_right_172 ?_
                          refine lv_bipush (v := nI 13) hx hb dM_right_175 (by decide) ?_
                          refine lv_iload hx hb dM_right_177 (lv_at hl 1 rfl) ?_
                          refine lv_imul hx hb dM_right_179 ?_
                          refine st_i (y := nI (13 * k)) (pk_mul _ _) ?_
                          refine lv_bipush (v := nI 12) hx hb dM_right_180 (by decide) ?_
                          refine lv_iadd hx hb dM_right_182 ?_
                          refine st_i (y := nI ((13 * k) + 12)) (nI_add _ _) ?_
                          refine na_lald hx hb hK hP 9 8 rfl rfl (i := ((13 * k) + 12)) (by omega) (by decide) dM_right_183 ?_
                          refine lv_lload hx hb dM_right_184 (lv_at hl 0 rfl) ?_
                          refine lv_ladd hx hb dM_right_186 ?_
                          refine st_l (y := rmX M r q (v - M.ri r) k) (rfl) ?_
                          refine na_last hx hb hK hP hD hS 10 9 rfl rfl (i := k) (x := rmX M r q (v - M.ri r) k) (by omega) (by decide) dM_right_187 (fun H locs hP hD hS => ?_)
                          have hP : va_P (dC, dI) vwCl (MW mo km (ms 0 M.wk M.co M.cs M.ro M.ki M.wo M.ri M.fa M.li M.ln M.hr M.st M.dn M.pl M.ou M.ta (vp_updL tx k (rmX M r q (v - M.ri r) k)) M.ag)) H := hP
                          have hD : va_D A (MW mo km (ms 0 M.wk M.co M.cs M.ro M.ki M.wo M.ri M.fa M.li M.ln M.hr M.st M.dn M.pl M.ou M.ta (vp_updL tx k (rmX M r q (v - M.ri r) k)) M.ag)) := hD
                          have join211 : ∀ (ls : Array Slot), lv_has ls 11 [(9, .long ((if M.ki r = 1 then mvR M k q (-(v - M.ri r)) else mvR M k q (v - M.ri r)) + (if M.ki r = 2 then mvR M k (q + 1) (-(v - M.ri r)) else 0))), (8, .int (nI k)), (7, .int (bI f)), (6, .int (nI q)), (4, .long (v - M.ri r)), (0, .ref (mo 0)), (1, .int (nI r)), (2, .long v)] → W p l e (headSpec wM_right ({ frames := 1, cells := 0, slots := 0, locals := 25 })).room s m ([.ref (mo 0), .int x, .long v] : List Value).toArray below meth c H locs 0 0 (MQ below (wQ (some (.int (bI (riM M x v).1))) (dC, dI) vwCl (MW mo km ((riM M x v).2)) A) ([.ref (mo 0), .int x, .long v] : List Value).toArray s 0 0 A) (F0 m 211 ls [.int (bI (f && !isGrB (rmX M r q (v - M.ri r) k)))]) := by
                            intro ls hl
                            refine lv_istore (lv' := [(7, .int (bI (f && !isGrB (rmX M r q (v - M.ri r) k)))), (9, .long ((if M.ki r = 1 then mvR M k q (-(v - M.ri r)) else mvR M k q (v - M.ri r)) + (if M.ki r = 2 then mvR M k (q + 1) (-(v - M.ri r)) else 0))), (8, .int (nI k)), (6, .int (nI q)), (4, .long (v - M.ri r)), (0, .ref (mo 0)), (1, .int (nI r)), (2, .long v)]) hx hb dM_right_211 hl (by decide) rfl (fun ls hl => ?_)
                            refine lv_iinc (v := nI (k + 1)) (lv' := [(8, .int (nI (k + 1))), (7, .int (bI (f && !isGrB (rmX M r q (v - M.ri r) k)))), (9, .long ((if M.ki r = 1 then mvR M k q (-(v - M.ri r)) else mvR M k q (v - M.ri r)) + (if M.ki r = 2 then mvR M k (q + 1) (-(v - M.ri r)) else 0))), (6, .int (nI q)), (4, .long (v - M.ri r)), (0, .ref (mo 0)), (1, .int (nI r)), (2, .long v)]) hx hb dM_right_213 hl (k := 2) rfl (nI_add k 1) (by decide) rfl (fun ls hl => ?_)
                            refine lv_goto (tgt := 75) hx hb dM_right_216 (by decide) ?_
                            exact ih (k + 1) (vp_updL tx k (rmX M r q (v - M.ri r) k)) ((f && !isGrB (rmX M r q (v - M.ri r) k))) H locs ls (by omega) (by rw [← hq, rmL, if_pos (show inB M k = true from hi)]) hP hD hS (lv_sub hl [0, 1, 3, 4, 5, 6, 7] rfl)
                          refine lv_iload hx hb dM_right_188 (lv_at hl 2 rfl) ?_
                          refine lb_eq (tgt := 210) hx hb dM_right_190 (by decide) (fun h4 => ?_) (fun h4 => ?_)
                          · refine lv_iconst (v := 0) hx hb dM_right_210 (by decide) ?_
                            refine st_i (y := bI (f && !isGrB (rmX M r q (v - M.ri r) k))) (by first | (rw [h4]; rfl; done) | (rw [h4, h5]; rfl; done)) ?_
                            exact join211 ls (lv_sub hl [0, 1, 2, 3, 4, 5, 6, 7] rfl)
                          · refine lv_aload_n hx hb dM_right_193 rfl (lv_at hl 5 rfl) ?_
                            refine va_get (D := (dC, dI)) (ci := 2) (v := .ref (mo 10)) (C := RM) (T := FM) (N := 19) hx hb hta iM hown hK hP 0 rfl rfl 17 (by decide) (hta _ m_509) (fun _ h9 => h9) rfl dM_right_194 ?_
                            refine lv_iload hx hb dM_right_197 (lv_at hl 1 rfl) ?_
                            refine na_lald hx hb hK hP 10 9 rfl rfl (i := k) (by omega) (by decide) dM_right_199 ?_
                            refine st_l (y := rmX M r q (v - M.ri r) k) (by show vp_updL tx k (rmX M r q (v - M.ri r) k) k = _; simp [vp_updL]) ?_
                            refine rd_call (va_runS (As := [.long (rmX M r q (v - M.ri r) k)]) (rest := []) ⟨hx, hb, hml, hown, hta⟩ (c_M_isGreat l dC dI mo km (rmX M r q (v - M.ri r) k)) (cwS 1 hta (gS m_594 m_595 m_4 m_596) rfl rfl rfl (by decide +kernel) ⟨Nat.le_of_ble_eq_true rfl, Nat.le_of_ble_eq_true rfl⟩) (rd_S xT_ok trivial (hK.sub [] rfl) va_P_nil) rfl rfl hl.1 rfl (lv_room (Nat.le_of_ble_eq_true rfl)) dM_right_200 ⟨Nat.zero_le _, Nat.zero_le _⟩) ?_
                            refine W.eq (g2 := F0 m 203 ls [.int (bI (isGrB (rmX M r q (v - M.ri r) k)))]) rfl ?_
                            refine lb_ne (tgt := 210) hx hb dM_right_203 (by decide) (fun h5 => ?_) (fun h5 => ?_)
                            · refine lv_iconst (v := 0) hx hb dM_right_210 (by decide) ?_
                              refine st_i (y := bI (f && !isGrB (rmX M r q (v - M.ri r) k))) (by first | (rw [h4]; rfl; done) | (rw [h4, h5]; rfl; done)) ?_
                              exact join211 ls (lv_sub hl [0, 1, 2, 3, 4, 5, 6, 7] rfl)
                            · refine lv_iconst (v := 1) hx hb dM_right_206 (by decide) ?_
                              refine lv_goto (tgt := 211) hx hb dM_right_207 (by decide) ?_
                              refine st_i (y := bI (f && !isGrB (rmX M r q (v - M.ri r) k))) (by first | (rw [h4]; rfl; done) | (rw [h4, h5]; rfl; done)) ?_
                              exact join211 ls (lv_sub hl [0, 1, 2, 3, 4, 5, 6, 7] rfl)
                        refine lv_aload_n hx hb dM_right_135 rfl (lv_at hl 5 rfl) ?_
                        refine va_get (D := (dC, dI)) (ci := 2) (v := .ref (mo 2)) (C := RM) (T := FM) (N := 19) hx hb hta iM hown hK hP 0 rfl rfl 5 (by decide) (hta _ m_497) (fun _ h9 => h9) rfl dM_right_136 ?_
                        refine lv_iload_n hx hb dM_right_139 rfl (lv_at hl 6 rfl) ?_
                        refine na_iald hx hb hK hP 2 1 rfl rfl (i := r) (by omega) (by decide) dM_right_140 ?_
                        refine lv_iconst (v := 2) hx hb dM_right_141 (by decide) ?_
                        refine lv_icmp_ne (tgt := 161) hx hb dM_right_142 (by decide) (fun h3 => ?_) (fun h3 => ?_)
                        · have h3 : ¬ M.ki r = 2 := h3
                          refine lv_lconst (v := 0) hx hb dM_right_161 (by decide) ?_
                          refine st_l (y := (if M.ki r = 2 then mvR M k (q + 1) (-(v - M.ri r)) else 0)) (by first | (rw [if_pos h3]; rfl; done) | (rw [if_neg h3]; done)) ?_
                          exact join162 ls (lv_sub hl [0, 1, 2, 3, 4, 5, 6, 7] rfl)
                        · have h3 : M.ki r = 2 := h3
                          refine lv_aload_n hx hb dM_right_145 rfl (lv_at hl 5 rfl) ?_
                          refine lv_iload hx hb dM_right_146 (lv_at hl 1 rfl) ?_
                          refine lv_iload hx hb dM_right_148 (lv_at hl 3 rfl) ?_
                          refine lv_iconst (v := nI 1) hx hb dM_right_150 (by decide) ?_
                          refine lv_iadd hx hb dM_right_151 ?_
                          refine st_i (y := nI (q + 1)) (nI_add _ _) ?_
                          refine lv_lload hx hb dM_right_152 (lv_at hl 4 rfl) ?_
                          refine lv_lneg hx hb dM_right_154 ?_
                          refine rd_call (va_runV (As := [.int (nI k), .int (nI (q + 1)), .long (-(v - M.ri r))]) (rest := [.long (if M.ki r = 1 then mvR M k q (-(v - M.ri r)) else mvR M k q (v - M.ri r))]) ⟨hx, hb, hml, hown, hta⟩ (c_M_moved l dC dI mo km (ms 0 M.wk M.co M.cs M.ro M.ki M.wo M.ri M.fa M.li M.ln M.hr M.st M.dn M.pl M.ou M.ta tx M.ag) k (q + 1) (-(v - M.ri r)) hpl (by omega) (by omega)) (cwV 3 hta (gV m_590 m_592 mp_42 m_4 m_593) rfl rfl rfl (by decide +kernel) ⟨Nat.le_of_ble_eq_true rfl, Nat.le_of_ble_eq_true rfl⟩) (rd_V xT_ok trivial hK hP (ci := 2) (q0 := 0) rfl rfl) rfl rfl hl.1 rfl (lv_room (Nat.le_of_ble_eq_true rfl)) dM_right_155 ⟨Nat.zero_le _, Nat.zero_le _⟩) ?_
                          refine W.eq (g2 := F0 m 158 ls [.long (mvR (ms 0 M.wk M.co M.cs M.ro M.ki M.wo M.ri M.fa M.li M.ln M.hr M.st M.dn M.pl M.ou M.ta tx M.ag) k (q + 1) (-(v - M.ri r))), .long (if M.ki r = 1 then mvR M k q (-(v - M.ri r)) else mvR M k q (v - M.ri r))]) rfl ?_
                          refine lv_goto (tgt := 162) hx hb dM_right_158 (by decide) ?_
                          refine st_l (y := (if M.ki r = 2 then mvR M k (q + 1) (-(v - M.ri r)) else 0)) (by first | (rw [if_pos h3]; rfl; done) | (rw [if_neg h3]; done)) ?_
                          exact join162 ls (lv_sub hl [0, 1, 2, 3, 4, 5, 6, 7] rfl)
                      refine lv_aload_n hx hb dM_right_97 rfl (lv_at hl 4 rfl) ?_
                      refine va_get (D := (dC, dI)) (ci := 2) (v := .ref (mo 2)) (C := RM) (T := FM) (N := 19) hx hb hta iM hown hK hP 0 rfl rfl 5 (by decide) (hta _ m_497) (fun _ h9 => h9) rfl dM_right_98 ?_
                      refine lv_iload_n hx hb dM_right_101 rfl (lv_at hl 5 rfl) ?_
                      refine na_iald hx hb hK hP 2 1 rfl rfl (i := r) (by omega) (by decide) dM_right_102 ?_
                      refine lv_iconst (v := 1) hx hb dM_right_103 (by decide) ?_
                      refine lv_icmp_ne (tgt := 121) hx hb dM_right_104 (by decide) (fun h2 => ?_) (fun h2 => ?_)
                      · have h2 : ¬ M.ki r = 1 := h2
                        refine lv_aload_n hx hb dM_right_121 rfl (lv_at hl 4 rfl) ?_
                        refine lv_iload hx hb dM_right_122 (lv_at hl 0 rfl) ?_
                        refine lv_iload hx hb dM_right_124 (lv_at hl 2 rfl) ?_
                        refine lv_lload hx hb dM_right_126 (lv_at hl 3 rfl) ?_
                        refine rd_call (va_runV (As := [.int (nI k), .int (nI q), .long (v - M.ri r)]) (rest := []) ⟨hx, hb, hml, hown, hta⟩ (c_M_moved l dC dI mo km (ms 0 M.wk M.co M.cs M.ro M.ki M.wo M.ri M.fa M.li M.ln M.hr M.st M.dn M.pl M.ou M.ta tx M.ag) k q (v - M.ri r) hpl (by omega) (by omega)) (cwV 3 hta (gV m_590 m_592 mp_42 m_4 m_593) rfl rfl rfl (by decide +kernel) ⟨Nat.le_of_ble_eq_true rfl, Nat.le_of_ble_eq_true rfl⟩) (rd_V xT_ok trivial hK hP (ci := 2) (q0 := 0) rfl rfl) rfl rfl hl.1 rfl (lv_room (Nat.le_of_ble_eq_true rfl)) dM_right_128 ⟨Nat.zero_le _, Nat.zero_le _⟩) ?_
                        refine W.eq (g2 := F0 m 131 ls [.long (mvR (ms 0 M.wk M.co M.cs M.ro M.ki M.wo M.ri M.fa M.li M.ln M.hr M.st M.dn M.pl M.ou M.ta tx M.ag) k q (v - M.ri r))]) rfl ?_
                        refine st_l (y := (if M.ki r = 1 then mvR M k q (-(v - M.ri r)) else mvR M k q (v - M.ri r))) (by first | (rw [if_pos h2]; rfl; done) | (rw [if_neg h2]; rfl; done)) ?_
                        exact join131 ls (lv_sub hl [0, 1, 2, 3, 4, 5, 6] rfl)
                      · have h2 : M.ki r = 1 := h2
                        refine lv_aload_n hx hb dM_right_107 rfl (lv_at hl 4 rfl) ?_
                        refine lv_iload hx hb dM_right_108 (lv_at hl 0 rfl) ?_
                        refine lv_iload hx hb dM_right_110 (lv_at hl 2 rfl) ?_
                        refine lv_lload hx hb dM_right_112 (lv_at hl 3 rfl) ?_
                        refine lv_lneg hx hb dM_right_114 ?_
                        refine rd_call (va_runV (As := [.int (nI k), .int (nI q), .long (-(v - M.ri r))]) (rest := []) ⟨hx, hb, hml, hown, hta⟩ (c_M_moved l dC dI mo km (ms 0 M.wk M.co M.cs M.ro M.ki M.wo M.ri M.fa M.li M.ln M.hr M.st M.dn M.pl M.ou M.ta tx M.ag) k q (-(v - M.ri r)) hpl (by omega) (by omega)) (cwV 3 hta (gV m_590 m_592 mp_42 m_4 m_593) rfl rfl rfl (by decide +kernel) ⟨Nat.le_of_ble_eq_true rfl, Nat.le_of_ble_eq_true rfl⟩) (rd_V xT_ok trivial hK hP (ci := 2) (q0 := 0) rfl rfl) rfl rfl hl.1 rfl (lv_room (Nat.le_of_ble_eq_true rfl)) dM_right_115 ⟨Nat.zero_le _, Nat.zero_le _⟩) ?_
                        refine W.eq (g2 := F0 m 118 ls [.long (mvR (ms 0 M.wk M.co M.cs M.ro M.ki M.wo M.ri M.fa M.li M.ln M.hr M.st M.dn M.pl M.ou M.ta tx M.ag) k q (-(v - M.ri r)))]) rfl ?_
                        refine lv_goto (tgt := 131) hx hb dM_right_118 (by decide) ?_
                        refine st_l (y := (if M.ki r = 1 then mvR M k q (-(v - M.ri r)) else mvR M k q (v - M.ri r))) (by first | (rw [if_pos h2]; rfl; done) | (rw [if_neg h2]; rfl; done)) ?_
                        exact join131 ls (lv_sub hl [0, 1, 2, 3, 4, 5, 6] rfl)
            exact loop75 37 0 M.nx true H locs ls (by omega) rfl hP hD hS (lv_sub hl [0, 1, 2, 3, 4, 5, 6] rfl)
        · exact absurd c_2 (by decide)
      · refine lv_iconst (v := nI 2) hx hb dM_right_34 (by decide) ?_
        refine lv_goto (tgt := 39) hx hb dM_right_35 (by decide) ?_
        refine va_put (D := (dC, dI)) (ci := 2) (v := .int (nI 2)) (ty := .int) (C := RM) (T := FM) (N := 19) hx hb hta iM tM tM_ok nM hown hK hP hD hS 0 rfl rfl 0 (by decide) (hta _ m_492) (fun _ h9 => h9) rfl (by decide +kernel) rfl rfl (Nat.le_of_ble_eq_true rfl) dM_right_39 (fun H locs hP hD hS => ?_)
        have hP : va_P (dC, dI) vwCl (MW mo km (mTh M 2)) H := hP
        have hD : va_D A (MW mo km (mTh M 2)) := hD
        refine lv_aload_n hx hb dM_right_42 rfl (lv_at hl 0 rfl) ?_
        refine va_get (D := (dC, dI)) (ci := 2) (v := .int (nI 2)) (C := RM) (T := FM) (N := 19) hx hb hta iM hown hK hP 0 rfl rfl 0 (by decide) (hta _ m_492) (fun _ h9 => h9) rfl dM_right_43 ?_
        refine lz_le (tgt := 51) hx hb dM_right_46 (by decide) (fun c_14 => ?_) (fun c_14 => ?_)
        · exact absurd c_14 (by decide)
        · refine lv_iconst (v := 0) hx hb dM_right_49 (by decide) ?_
          exact W.zret (v := 0) hx hb hr (rfl) (fun t ht hW => ⟨congrArg (fun z => Outcome.returned (some (.int z))) (by simp only [riM, hi9, h1, Bool.false_eq_true, if_false]; rfl), by rw [ht]; exact (by simp only [riM, hi9, h1, Bool.false_eq_true, if_false]; exact hP), hS.F ht⟩) hS.2.2 dM_right_50
    · exact absurd (hi9y.symm.trans hb9) (by decide)
