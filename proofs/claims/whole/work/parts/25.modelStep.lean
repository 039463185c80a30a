set_option maxHeartbeats 4000000 in
set_option maxRecDepth 100000 in
theorem c_M_step (l : Launch) (dC : Nat → ClassId) (dI : Nat → Nat → Nat) (mo : Nat → Nat) (km : Nat → ClassId) (M : MS) (sz : Nat) (le q : Nat) (hpl : ∀ v k, M.pl v = some k → k < 12) (hcl : M.co + M.ln ≤ 36) (hle : le < 36) (hq9 : q < 12) (hou : ∀ k, M.ou k < 36) (hdn : ¬ M.dn = 0) : Met l yM_step wM_step ({ frames := 1, cells := 0, slots := 0, locals := 21 }) (wPc [.ref (mo 0), .int (nI le), .int (nI q)] sz (dC, dI) vwCl (MW mo km M) (MK km) xT) (wQ (some (.int (bI (spM M le q).1))) (dC, dI) vwCl (MW mo km ((spM M le q).2)) (va_A (MW mo km M) sz)) 0 0 (va_A (MW mo km M) sz) := by
  refine Met.ofW (cc := bM_step) (maxL := 11) (ret := (some .boolean)) (by decide) rfl ?_
  intro p e s m args below meth c s₁ B hml hv
  obtain ⟨rfl, hsz, hP, hK, hD0, hX⟩ := hv
  have hx := B.exec
  have hb := B.bytes
  have hr := B.returns
  have hts := atoms_spec (ws := wM_step) B.pre
  have hta : ∀ w ∈ AW, w.before _ s = true := fun w h => hts w (List.mem_cons_of_mem _ h)
  have hown : s.vm.findClass RM = some m.cls := findClass_of_methodNamed B.named
  have hlocks := B.notSynchronized
  subst hsz
  have hD := hD0.self (sz := s.heap.size)
  generalize hAe : va_A (MW mo km M) s.heap.size = A at hD ⊢
  have hA : ∀ q : Nat, s.heap.size ≤ q → A q := fun q h => by rw [← hAe]; exact Or.inr h
  have hS : va_S A s.heap s.heap [] := va_S.rf
  have hl := lv_entry ([.ref (mo 0), .int (nI le), .int (nI q)]) (n := 11) (Nat.le_of_ble_eq_true rfl)
  rw [lg_entry_eq]
  generalize (lg_sl ([.ref (mo 0), .int (nI le), .int (nI q)]) ++ List.replicate (11 - (lg_sl ([.ref (mo 0), .int (nI le), .int (nI q)])).length) Slot.unset).toArray = ls at hl ⊢
  have hl : lv_has ls 11 [(0, .ref (mo 0)), (1, .int (nI le)), (2, .int (nI q))] := hl
  have hoq := hou q
  refine lv_aload_n hx hb dM_step_0 rfl (lv_at hl 0 rfl) ?_
  refine va_get (D := (dC, dI)) (ci := 2) (v := .ref (mo 9)) (C := RM) (T := FM) (N := 19) hx hb hta iM hown hK hP 0 rfl rfl 16 (by decide) (hta _ m_508) (fun _ h9 => h9) rfl dM_step_1 ?_
  refine lv_bipush (v := nI 13) hx hb dM_step_4 (by decide) ?_
  refine lv_iload_n hx hb dM_step_6 rfl (lv_at hl 1 rfl) ?_
  refine lv_imul hx hb dM_step_7 ?_
  refine st_i (y := nI (13 * le)) (pk_mul _ _) ?_
  refine lv_iload_n hx hb dM_step_8 rfl (lv_at hl 2 rfl) ?_
  refine lv_iadd hx hb dM_step_9 ?_
  refine st_i (y := nI ((13 * le) + q)) (nI_add _ _) ?_
  refine na_lald hx hb hK hP 9 8 rfl rfl (i := ((13 * le) + q)) (by omega) (by decide) dM_step_10 ?_
  refine lv_lstore_n (lv' := [(3, .long (M.ta ((13 * le) + q))), (0, .ref (mo 0)), (1, .int (nI le)), (2, .int (nI q))]) hx hb dM_step_11 rfl hl (by decide) rfl (fun ls hl => ?_)
  refine lv_aload_n hx hb dM_step_12 rfl (lv_at hl 1 rfl) ?_
  refine va_get (D := (dC, dI)) (ci := 2) (v := .ref (mo 8)) (C := RM) (T := FM) (N := 19) hx hb hta iM hown hK hP 0 rfl rfl 15 (by decide) (hta _ m_507) (fun _ h9 => h9) rfl dM_step_13 ?_
  refine lv_iload_n hx hb dM_step_16 rfl (lv_at hl 3 rfl) ?_
  refine na_iald hx hb hK hP 8 7 rfl rfl (i := q) (by omega) (by decide) dM_step_17 ?_
  refine W.eq (g2 := F0 m 18 ls [.int (nI (M.ou q))]) rfl ?_
  refine lv_istore (lv' := [(5, .int (nI (M.ou q))), (3, .long (M.ta ((13 * le) + q))), (0, .ref (mo 0)), (1, .int (nI le)), (2, .int (nI q))]) hx hb dM_step_18 hl (by decide) rfl (fun ls hl => ?_)
  have join32 : ∀ (ls : Array Slot), lv_has ls 11 [(5, .int (nI (M.ou q))), (3, .long (M.ta ((13 * le) + q))), (0, .ref (mo 0)), (1, .int (nI le)), (2, .int (nI q))] → W p l e (headSpec wM_step ({ frames := 1, cells := 0, slots := 0, locals := 21 })).room s m ([.ref (mo 0), .int (nI le), .int (nI q)] : List Value).toArray below meth c s.heap [] 0 0 (MQ below (wQ (some (.int (bI (spM M le q).1))) (dC, dI) vwCl (MW mo km ((spM M le q).2)) A) ([.ref (mo 0), .int (nI le), .int (nI q)] : List Value).toArray s 0 0 A) (F0 m 32 ls [.int (bI (!isGrB (M.ta (13 * le + q))))]) := by
    intro ls hl
    refine lv_istore (lv' := [(6, .int (bI (!isGrB (M.ta (13 * le + q))))), (5, .int (nI (M.ou q))), (3, .long (M.ta ((13 * le) + q))), (0, .ref (mo 0)), (1, .int (nI le)), (2, .int (nI q))]) hx hb dM_step_32 hl (by decide) rfl (fun ls hl => ?_)
    refine lv_iconst (v := nI 0) hx hb dM_step_34 (by decide) ?_
    refine lv_istore (lv' := [(7, .int (nI 0)), (6, .int (bI (!isGrB (M.ta (13 * le + q))))), (5, .int (nI (M.ou q))), (3, .long (M.ta ((13 * le) + q))), (0, .ref (mo 0)), (1, .int (nI le)), (2, .int (nI q))]) hx hb dM_step_35 hl (by decide) rfl (fun ls hl => ?_)
    have loop37 : ∀ (n : Nat) (v : Nat) (tx : Nat → Int64) (b : Bool) (H : Heap) (locs : List Loc) (ls : Array Slot), (v + n = 37) → (spO M le q v n tx b = spN M le q) → va_P (dC, dI) vwCl (MW mo km (mNx M tx)) H → va_D A (MW mo km (mNx M tx)) → va_S A s.heap H locs → lv_has ls 11 [(7, .int (nI v)), (6, .int (bI b)), (5, .int (nI (M.ou q))), (3, .long (M.ta (13 * le + q))), (0, .ref (mo 0)), (1, .int (nI le)), (2, .int (nI q))] → W p l e (headSpec wM_step ({ frames := 1, cells := 0, slots := 0, locals := 21 })).room s m ([.ref (mo 0), .int (nI le), .int (nI q)] : List Value).toArray below meth c H locs 0 0 (MQ below (wQ (some (.int (bI (spM M le q).1))) (dC, dI) vwCl (MW mo km ((spM M le q).2)) A) ([.ref (mo 0), .int (nI le), .int (nI q)] : List Value).toArray s 0 0 A) (F0 m 37 ls []) := by
      intro n
      induction n with
      | zero =>
        intro v tx b H locs ls hn hq hP hD hS hl
        refine lv_iload hx hb dM_step_37 (lv_at hl 0 rfl) ?_
        refine lv_bipush (v := nI 36) hx hb dM_step_39 (by decide) ?_
        refine ni_gt (tgt := 186) hx hb dM_step_41 (by decide) (by omega) (by omega) (fun c_1 => ?_) (fun c_1 => ?_)
        · have hq0 : spN M le q = (tx, b) := hq.symm
          refine lv_iload hx hb dM_step_186 (lv_at hl 1 rfl) ?_
          refine lb_ne (tgt := 193) hx hb dM_step_188 (by decide) (fun hb9 => ?_) (fun hb9 => ?_)
          · have e9 : spM M le q = (true, _) := if_pos (by rw [hq0]; exact hb9)
            refine lv_iconst (v := nI 0) hx hb dM_step_193 (by decide) ?_
            refine lv_istore (lv' := [(7, .int (nI 0)), (6, .int (bI b)), (5, .int (nI (M.ou q))), (3, .long (M.ta (13 * le + q))), (0, .ref (mo 0)), (1, .int (nI le)), (2, .int (nI q))]) hx hb dM_step_194 hl (by decide) rfl (fun ls hl => ?_)
            have loop196 : ∀ (n : Nat) (v : Nat) (u : Nat → Int64) (H : Heap) (locs : List Loc) (ls : Array Slot), (v + n = 37) → (cpO M tx le v n u = cpO M tx le 0 37 M.ta) → va_P (dC, dI) vwCl (MW mo km (mTn M u tx)) H → va_D A (MW mo km (mTn M u tx)) → va_S A s.heap H locs → lv_has ls 11 [(7, .int (nI v)), (5, .int (nI (M.ou q))), (3, .long (M.ta (13 * le + q))), (0, .ref (mo 0)), (1, .int (nI le)), (2, .int (nI q))] → W p l e (headSpec wM_step ({ frames := 1, cells := 0, slots := 0, locals := 21 })).room s m ([.ref (mo 0), .int (nI le), .int (nI q)] : List Value).toArray below meth c H locs 0 0 (MQ below (wQ (some (.int (bI (spM M le q).1))) (dC, dI) vwCl (MW mo km ((spM M le q).2)) A) ([.ref (mo 0), .int (nI le), .int (nI q)] : List Value).toArray s 0 0 A) (F0 m 196 ls []) := by
              intro n
              induction n with
              | zero =>
                intro v u H locs ls hn hq5 hP hD hS hl
                refine lv_iload hx hb dM_step_196 (lv_at hl 0 rfl) ?_
                refine lv_bipush (v := nI 36) hx hb dM_step_198 (by decide) ?_
                refine ni_gt (tgt := 266) hx hb dM_step_200 (by decide) (by omega) (by omega) (fun c_2 => ?_) (fun c_2 => ?_)
                · refine lv_iconst (v := nI 0) hx hb dM_step_266 (by decide) ?_
                  refine lv_istore (lv' := [(7, .int (nI 0)), (5, .int (nI (M.ou q))), (3, .long (M.ta (13 * le + q))), (0, .ref (mo 0)), (1, .int (nI le)), (2, .int (nI q))]) hx hb dM_step_267 hl (by decide) rfl (fun ls hl => ?_)
                  have loop269 : ∀ (n : Nat) (k3 : Nat) (u3 : Nat → Int64) (H : Heap) (locs : List Loc) (ls : Array Slot), (k3 + n = 13) → (teR M.dn le q (M.ou q) k3 n u3 = teR M.dn le q (M.ou q) 0 13 u) → va_P (dC, dI) vwCl (MW mo km (mTn M u3 tx)) H → va_D A (MW mo km (mTn M u3 tx)) → va_S A s.heap H locs → lv_has ls 11 [(7, .int (nI k3)), (5, .int (nI (M.ou q))), (3, .long (M.ta (13 * le + q))), (0, .ref (mo 0)), (1, .int (nI le)), (2, .int (nI q))] → W p l e (headSpec wM_step ({ frames := 1, cells := 0, slots := 0, locals := 21 })).room s m ([.ref (mo 0), .int (nI le), .int (nI q)] : List Value).toArray below meth c H locs 0 0 (MQ below (wQ (some (.int (bI (spM M le q).1))) (dC, dI) vwCl (MW mo km ((spM M le q).2)) A) ([.ref (mo 0), .int (nI le), .int (nI q)] : List Value).toArray s 0 0 A) (F0 m 269 ls []) := by
                    intro n
                    induction n with
                    | zero =>
                      intro k3 u3 H locs ls hn hq7 hP hD hS hl
                      refine lv_iload hx hb dM_step_269 (lv_at hl 0 rfl) ?_
                      refine lv_bipush (v := nI 12) hx hb dM_step_271 (by decide) ?_
                      refine ni_gt (tgt := 321) hx hb dM_step_273 (by decide) (by omega) (by omega) (fun c_3 => ?_) (fun c_3 => ?_)
                      · refine lv_aload_n hx hb dM_step_321 rfl (lv_at hl 3 rfl) ?_
                        refine va_get (D := (dC, dI)) (ci := 2) (v := .ref (mo 7)) (C := RM) (T := FM) (N := 19) hx hb hta iM hown hK hP 0 rfl rfl 14 (by decide) (hta _ m_506) (fun _ h9 => h9) rfl dM_step_322 ?_
                        refine lv_iload hx hb dM_step_325 (lv_at hl 1 rfl) ?_
                        refine lv_iconst (v := (-1)) hx hb dM_step_327 (by decide) ?_
                        refine na_iast hx hb hK hP hD hS 7 6 rfl rfl (i := (M.ou q)) (x := enc none) (by omega) (by decide) dM_step_328 (fun H locs hP hD hS => ?_)
                        rw [encF_up] at hP hD
                        have hP : va_P (dC, dI) vwCl (MW mo km (ms M.thr M.wk M.co M.cs M.ro M.ki M.wo M.ri M.fa M.li M.ln M.hr M.st M.dn (va_up M.pl (M.ou q) none) M.ou u3 tx M.ag)) H := hP
                        have hD : va_D A (MW mo km (ms M.thr M.wk M.co M.cs M.ro M.ki M.wo M.ri M.fa M.li M.ln M.hr M.st M.dn (va_up M.pl (M.ou q) none) M.ou u3 tx M.ag)) := hD
                        refine lv_aload_n hx hb dM_step_329 rfl (lv_at hl 3 rfl) ?_
                        refine va_get (D := (dC, dI)) (ci := 2) (v := .ref (mo 7)) (C := RM) (T := FM) (N := 19) hx hb hta iM hown hK hP 0 rfl rfl 14 (by decide) (hta _ m_506) (fun _ h9 => h9) rfl dM_step_330 ?_
                        refine lv_iload_n hx hb dM_step_333 rfl (lv_at hl 4 rfl) ?_
                        refine lv_iload_n hx hb dM_step_334 rfl (lv_at hl 5 rfl) ?_
                        refine na_iast hx hb hK hP hD hS 7 6 rfl rfl (i := le) (x := enc (some q)) (by omega) (by decide) dM_step_335 (fun H locs hP hD hS => ?_)
                        rw [encF_up] at hP hD
                        have hP : va_P (dC, dI) vwCl (MW mo km (ms M.thr M.wk M.co M.cs M.ro M.ki M.wo M.ri M.fa M.li M.ln M.hr M.st M.dn (va_up (va_up M.pl (M.ou q) none) le (some q)) M.ou u3 tx M.ag)) H := hP
                        have hD : va_D A (MW mo km (ms M.thr M.wk M.co M.cs M.ro M.ki M.wo M.ri M.fa M.li M.ln M.hr M.st M.dn (va_up (va_up M.pl (M.ou q) none) le (some q)) M.ou u3 tx M.ag)) := hD
                        refine lv_aload_n hx hb dM_step_336 rfl (lv_at hl 3 rfl) ?_
                        refine va_get (D := (dC, dI)) (ci := 2) (v := .ref (mo 8)) (C := RM) (T := FM) (N := 19) hx hb hta iM hown hK hP 0 rfl rfl 15 (by decide) (hta _ m_507) (fun _ h9 => h9) rfl dM_step_337 ?_
                        refine lv_iload_n hx hb dM_step_340 rfl (lv_at hl 5 rfl) ?_
                        refine lv_iload_n hx hb dM_step_341 rfl (lv_at hl 4 rfl) ?_
                        refine na_iast hx hb hK hP hD hS 8 7 rfl rfl (i := q) (x := nI le) (by omega) (by decide) dM_step_342 (fun H locs hP hD hS => ?_)
                        rw [nIF_up] at hP hD
                        have hP : va_P (dC, dI) vwCl (MW mo km (ms M.thr M.wk M.co M.cs M.ro M.ki M.wo M.ri M.fa M.li M.ln M.hr M.st M.dn (va_up (va_up M.pl (M.ou q) none) le (some q)) (va_up M.ou q le) u3 tx M.ag)) H := hP
                        have hD : va_D A (MW mo km (ms M.thr M.wk M.co M.cs M.ro M.ki M.wo M.ri M.fa M.li M.ln M.hr M.st M.dn (va_up (va_up M.pl (M.ou q) none) le (some q)) (va_up M.ou q le) u3 tx M.ag)) := hD
                        refine lv_aload_n hx hb dM_step_343 rfl (lv_at hl 3 rfl) ?_
                        refine lv_lload_n hx hb dM_step_344 rfl (lv_at hl 2 rfl) ?_
                        refine va_put (D := (dC, dI)) (ci := 2) (v := .long (M.ta (13 * le + q))) (ty := .long) (C := RM) (T := FM) (N := 19) hx hb hta iM tM tM_ok nM hown hK hP hD hS 0 rfl rfl 13 (by decide) (hta _ m_505) (fun _ h9 => h9) rfl (by decide +kernel) rfl rfl (Nat.le_of_ble_eq_true rfl) dM_step_345 (fun H locs hP hD hS => ?_)
                        have hP : va_P (dC, dI) vwCl (MW mo km (ms M.thr M.wk M.co M.cs M.ro M.ki M.wo M.ri M.fa M.li M.ln M.hr M.st (M.ta (13 * le + q)) (va_up (va_up M.pl (M.ou q) none) le (some q)) (va_up M.ou q le) u3 tx M.ag)) H := hP
                        have hD : va_D A (MW mo km (ms M.thr M.wk M.co M.cs M.ro M.ki M.wo M.ri M.fa M.li M.ln M.hr M.st (M.ta (13 * le + q)) (va_up (va_up M.pl (M.ou q) none) le (some q)) (va_up M.ou q le) u3 tx M.ag)) := hD
                        refine lv_aload_n hx hb dM_step_348 rfl (lv_at hl 3 rfl) ?_
                        refine lv_dup hx hb dM_step_349 rfl ?_
                        refine va_get (D := (dC, dI)) (ci := 2) (v := .int M.st) (C := RM) (T := FM) (N := 19) hx hb hta iM hown hK hP 0 rfl rfl 12 (by decide) (hta _ m_504) (fun _ h9 => h9) rfl dM_step_350 ?_
                        refine lv_iconst (v := 1) hx hb dM_step_353 (by decide) ?_
                        refine lv_iadd hx hb dM_step_354 ?_
                        refine va_put (D := (dC, dI)) (ci := 2) (v := .int (M.st + 1)) (ty := .int) (C := RM) (T := FM) (N := 19) hx hb hta iM tM tM_ok nM hown hK hP hD hS 0 rfl rfl 12 (by decide) (hta _ m_504) (fun _ h9 => h9) rfl (by decide +kernel) rfl rfl (Nat.le_of_ble_eq_true rfl) dM_step_355 (fun H locs hP hD hS => ?_)
                        have hP : va_P (dC, dI) vwCl (MW mo km (ms M.thr M.wk M.co M.cs M.ro M.ki M.wo M.ri M.fa M.li M.ln M.hr (M.st + 1) (M.ta (13 * le + q)) (va_up (va_up M.pl (M.ou q) none) le (some q)) (va_up M.ou q le) u3 tx M.ag)) H := hP
                        have hD : va_D A (MW mo km (ms M.thr M.wk M.co M.cs M.ro M.ki M.wo M.ri M.fa M.li M.ln M.hr (M.st + 1) (M.ta (13 * le + q)) (va_up (va_up M.pl (M.ou q) none) le (some q)) (va_up M.ou q le) u3 tx M.ag)) := hD
                        refine lv_iconst (v := 1) hx hb dM_step_358 (by decide) ?_
                        exact W.zret (v := 1) hx hb hr (rfl) (fun t ht hW => ⟨congrArg (fun z => Outcome.returned (some (.int z))) (by rw [e9]; rfl), by rw [ht]; exact (by rw [show spM M le q = (true, (ms M.thr M.wk M.co M.cs M.ro M.ki M.wo M.ri M.fa M.li M.ln M.hr (M.st + 1) (M.ta (13 * le + q)) (va_up (va_up M.pl (M.ou q) none) le (some q)) (va_up M.ou q le) u3 tx M.ag)) by (rw [e9, hq0]; rw [show cpO M tx le 0 37 M.ta = u from hq5.symm]; rw [show teR M.dn le q (M.ou q) 0 13 u = u3 from hq7.symm])]; exact hP), hS.F ht⟩) hS.2.2 dM_step_359
                      · exfalso; omega
                    | succ n ih =>
                      intro k3 u3 H locs ls hn hq7 hP hD hS hl
                      refine lv_iload hx hb dM_step_269 (lv_at hl 0 rfl) ?_
                      refine lv_bipush (v := nI 12) hx hb dM_step_271 (by decide) ?_
                      refine ni_gt (tgt := 321) hx hb dM_step_273 (by decide) (by omega) (by omega) (fun c_4 => ?_) (fun c_4 => ?_)
                      · exfalso; omega
                      · refine lv_aload_n hx hb dM_step_276 rfl (lv_at hl 3 rfl) ?_
                        refine va_get (D := (dC, dI)) (ci := 2) (v := .ref (mo 9)) (C := RM) (T := FM) (N := 19) hx hb hta iM hown hK hP 0 rfl rfl 16 (by decide) (hta _ m_508) (fun _ h9 => h9) rfl dM_step_277 ?_
                        refine lv_bipush (v := nI 13) hx hb dM_step_280 (by decide) ?_
                        refine lv_iload hx hb dM_step_282 (lv_at hl 1 rfl) ?_
                        refine lv_imul hx hb dM_step_284 ?_
                        refine st_i (y := nI (13 * (M.ou q))) (pk_mul _ _) ?_
                        refine lv_iload hx hb dM_step_285 (lv_at hl 0 rfl) ?_
                        refine lv_iadd hx hb dM_step_287 ?_
                        refine st_i (y := nI ((13 * (M.ou q)) + k3)) (nI_add _ _) ?_
                        refine lv_iload hx hb dM_step_288 (lv_at hl 0 rfl) ?_
                        refine lv_iload_n hx hb dM_step_290 rfl (lv_at hl 5 rfl) ?_
                        refine ni_ne (tgt := 301) hx hb dM_step_291 (by decide) (by omega) (by omega) (fun h8 => ?_) (fun h8 => ?_)
                        · refine lv_aload_n hx hb dM_step_301 rfl (lv_at hl 3 rfl) ?_
                          refine va_get (D := (dC, dI)) (ci := 2) (v := .ref (mo 9)) (C := RM) (T := FM) (N := 19) hx hb hta iM hown hK hP 0 rfl rfl 16 (by decide) (hta _ m_508) (fun _ h9 => h9) rfl dM_step_302 ?_
                          refine lv_bipush (v := nI 13) hx hb dM_step_305 (by decide) ?_
                          refine lv_iload_n hx hb dM_step_307 rfl (lv_at hl 4 rfl) ?_
                          refine lv_imul hx hb dM_step_308 ?_
                          refine st_i (y := nI (13 * le)) (pk_mul _ _) ?_
                          refine lv_iload hx hb dM_step_309 (lv_at hl 0 rfl) ?_
                          refine lv_iadd hx hb dM_step_311 ?_
                          refine st_i (y := nI ((13 * le) + k3)) (nI_add _ _) ?_
                          refine na_lald hx hb hK hP 9 8 rfl rfl (i := ((13 * le) + k3)) (by omega) (by decide) dM_step_312 ?_
                          refine lv_lneg hx hb dM_step_313 ?_
                          refine na_last hx hb hK hP hD hS 9 8 rfl rfl (i := ((13 * (M.ou q)) + k3)) (x := -(u3 ((13 * le) + k3))) (by omega) (by decide) dM_step_314 (fun H locs hP hD hS => ?_)
                          have hP : va_P (dC, dI) vwCl (MW mo km (mTn M (vp_updL u3 ((13 * (M.ou q)) + k3) (-(u3 ((13 * le) + k3)))) tx)) H := hP
                          have hD : va_D A (MW mo km (mTn M (vp_updL u3 ((13 * (M.ou q)) + k3) (-(u3 ((13 * le) + k3)))) tx)) := hD
                          refine lv_iinc (v := nI (k3 + 1)) (lv' := [(7, .int (nI (k3 + 1))), (5, .int (nI (M.ou q))), (3, .long (M.ta (13 * le + q))), (0, .ref (mo 0)), (1, .int (nI le)), (2, .int (nI q))]) hx hb dM_step_315 hl (k := 0) rfl (nI_add k3 1) (by decide) rfl (fun ls hl => ?_)
                          refine lv_goto (tgt := 269) hx hb dM_step_318 (by decide) ?_
                          exact ih (k3 + 1) (vp_updL u3 ((13 * (M.ou q)) + k3) (-(u3 ((13 * le) + k3)))) H locs ls (by omega) (by rw [← hq7, teR]; first | (rw [if_pos h8]; done) | (rw [if_neg h8]; done)) hP hD hS (lv_sub hl [0, 1, 2, 3, 4, 5] rfl)
                        · refine lv_aload_n hx hb dM_step_294 rfl (lv_at hl 3 rfl) ?_
                          refine va_get (D := (dC, dI)) (ci := 2) (v := .long M.dn) (C := RM) (T := FM) (N := 19) hx hb hta iM hown hK hP 0 rfl rfl 13 (by decide) (hta _ m_505) (fun _ h9 => h9) rfl dM_step_295 ?_
                          refine lv_goto (tgt := 314) hx hb dM_step_298 (by decide) ?_
                          refine na_last hx hb hK hP hD hS 9 8 rfl rfl (i := ((13 * (M.ou q)) + k3)) (x := M.dn) (by omega) (by decide) dM_step_314 (fun H locs hP hD hS => ?_)
                          have hP : va_P (dC, dI) vwCl (MW mo km (mTn M (vp_updL u3 ((13 * (M.ou q)) + k3) M.dn) tx)) H := hP
                          have hD : va_D A (MW mo km (mTn M (vp_updL u3 ((13 * (M.ou q)) + k3) M.dn) tx)) := hD
                          refine lv_iinc (v := nI (k3 + 1)) (lv' := [(7, .int (nI (k3 + 1))), (5, .int (nI (M.ou q))), (3, .long (M.ta (13 * le + q))), (0, .ref (mo 0)), (1, .int (nI le)), (2, .int (nI q))]) hx hb dM_step_315 hl (k := 0) rfl (nI_add k3 1) (by decide) rfl (fun ls hl => ?_)
                          refine lv_goto (tgt := 269) hx hb dM_step_318 (by decide) ?_
                          exact ih (k3 + 1) (vp_updL u3 ((13 * (M.ou q)) + k3) M.dn) H locs ls (by omega) (by rw [← hq7, teR]; first | (rw [if_pos h8]; done) | (rw [if_neg h8]; done)) hP hD hS (lv_sub hl [0, 1, 2, 3, 4, 5] rfl)
                  exact loop269 13 0 u H locs ls (by omega) rfl hP hD hS (lv_sub hl [0, 1, 2, 3, 4, 5] rfl)
                · exfalso; omega
              | succ n ih =>
                intro v u H locs ls hn hq5 hP hD hS hl
                refine lv_iload hx hb dM_step_196 (lv_at hl 0 rfl) ?_
                refine lv_bipush (v := nI 36) hx hb dM_step_198 (by decide) ?_
                refine ni_gt (tgt := 266) hx hb dM_step_200 (by decide) (by omega) (by omega) (fun c_5 => ?_) (fun c_5 => ?_)
                · exfalso; omega
                · refine lv_iconst (v := nI 0) hx hb dM_step_203 (by decide) ?_
                  refine lv_istore (lv' := [(8, .int (nI 0)), (7, .int (nI v)), (5, .int (nI (M.ou q))), (3, .long (M.ta (13 * le + q))), (0, .ref (mo 0)), (1, .int (nI le)), (2, .int (nI q))]) hx hb dM_step_204 hl (by decide) rfl (fun ls hl => ?_)
                  by_cases hv9 : inB M v = true ∧ v ≠ le
                  · have loop206 : ∀ (n2 : Nat) (k2 : Nat) (u2 : Nat → Int64) (H : Heap) (locs : List Loc) (ls : Array Slot), (k2 + n2 = 13) → (cpI tx v k2 n2 u2 = cpI tx v 0 13 u) → va_P (dC, dI) vwCl (MW mo km (mTn M u2 tx)) H → va_D A (MW mo km (mTn M u2 tx)) → va_S A s.heap H locs → lv_has ls 11 [(8, .int (nI k2)), (7, .int (nI v)), (5, .int (nI (M.ou q))), (3, .long (M.ta (13 * le + q))), (0, .ref (mo 0)), (1, .int (nI le)), (2, .int (nI q))] → W p l e (headSpec wM_step ({ frames := 1, cells := 0, slots := 0, locals := 21 })).room s m ([.ref (mo 0), .int (nI le), .int (nI q)] : List Value).toArray below meth c H locs 0 0 (MQ below (wQ (some (.int (bI (spM M le q).1))) (dC, dI) vwCl (MW mo km ((spM M le q).2)) A) ([.ref (mo 0), .int (nI le), .int (nI q)] : List Value).toArray s 0 0 A) (F0 m 206 ls []) := by
                      intro n2
                      induction n2 with
                      | zero =>
                        intro k2 u2 H locs ls hn2 hq6 hP hD hS hl
                        refine lv_aload_n hx hb dM_step_206 rfl (lv_at hl 4 rfl) ?_
                        refine lv_iload hx hb dM_step_207 (lv_at hl 1 rfl) ?_
                        refine rd_call (va_runV (As := [.int (nI v)]) (rest := []) ⟨hx, hb, hml, hown, hta⟩ (c_M_isInside l dC dI mo km (mTn M u2 tx) v (by first | omega | assumption) (by first | omega | assumption) (by first | omega | assumption)) (cwV 1 hta (gV m_586 m_588 mp_41 m_4 m_589) rfl rfl rfl (by decide +kernel) ⟨Nat.le_of_ble_eq_true rfl, Nat.le_of_ble_eq_true rfl⟩) (rd_V xT_ok trivial hK hP (ci := 2) (q0 := 0) rfl rfl) rfl rfl hl.1 rfl (lv_room (Nat.le_of_ble_eq_true rfl)) dM_step_209 ⟨Nat.zero_le _, Nat.zero_le _⟩) ?_
                        refine W.eq (g2 := F0 m 212 ls [.int (bI (inB (mTn M u2 tx) v))]) rfl ?_
                        refine lb_eq (tgt := 260) hx hb dM_step_212 (by decide) (fun hi => ?_) (fun hi => ?_)
                        · exact absurd (hv9.1.symm.trans hi) (by decide)
                        · refine lv_iload hx hb dM_step_215 (lv_at hl 1 rfl) ?_
                          refine lv_iload_n hx hb dM_step_217 rfl (lv_at hl 5 rfl) ?_
                          refine ni_eq (tgt := 260) hx hb dM_step_218 (by decide) (by omega) (by omega) (fun h1 => ?_) (fun h1 => ?_)
                          · exact absurd h1 hv9.2
                          · refine lv_iload hx hb dM_step_221 (lv_at hl 0 rfl) ?_
                            refine lv_bipush (v := nI 12) hx hb dM_step_223 (by decide) ?_
                            refine ni_gt (tgt := 260) hx hb dM_step_225 (by decide) (by omega) (by omega) (fun c_6 => ?_) (fun c_6 => ?_)
                            · refine lv_iinc (v := nI (v + 1)) (lv' := [(7, .int (nI (v + 1))), (8, .int (nI k2)), (5, .int (nI (M.ou q))), (3, .long (M.ta (13 * le + q))), (0, .ref (mo 0)), (1, .int (nI le)), (2, .int (nI q))]) hx hb dM_step_260 hl (k := 1) rfl (nI_add v 1) (by decide) rfl (fun ls hl => ?_)
                              refine lv_goto (tgt := 196) hx hb dM_step_263 (by decide) ?_
                              exact ih (v + 1) u2 H locs ls (by omega) (by rw [← hq5, cpO, if_pos hv9, show cpI tx v 0 13 u = u2 from hq6.symm]) hP hD hS (lv_sub hl [0, 2, 3, 4, 5, 6] rfl)
                            · exfalso; omega
                      | succ n2 ih206 =>
                        intro k2 u2 H locs ls hn2 hq6 hP hD hS hl
                        refine lv_aload_n hx hb dM_step_206 rfl (lv_at hl 4 rfl) ?_
                        refine lv_iload hx hb dM_step_207 (lv_at hl 1 rfl) ?_
                        refine rd_call (va_runV (As := [.int (nI v)]) (rest := []) ⟨hx, hb, hml, hown, hta⟩ (c_M_isInside l dC dI mo km (mTn M u2 tx) v (by first | omega | assumption) (by first | omega | assumption) (by first | omega | assumption)) (cwV 1 hta (gV m_586 m_588 mp_41 m_4 m_589) rfl rfl rfl (by decide +kernel) ⟨Nat.le_of_ble_eq_true rfl, Nat.le_of_ble_eq_true rfl⟩) (rd_V xT_ok trivial hK hP (ci := 2) (q0 := 0) rfl rfl) rfl rfl hl.1 rfl (lv_room (Nat.le_of_ble_eq_true rfl)) dM_step_209 ⟨Nat.zero_le _, Nat.zero_le _⟩) ?_
                        refine W.eq (g2 := F0 m 212 ls [.int (bI (inB (mTn M u2 tx) v))]) rfl ?_
                        refine lb_eq (tgt := 260) hx hb dM_step_212 (by decide) (fun hi => ?_) (fun hi => ?_)
                        · exact absurd (hv9.1.symm.trans hi) (by decide)
                        · refine lv_iload hx hb dM_step_215 (lv_at hl 1 rfl) ?_
                          refine lv_iload_n hx hb dM_step_217 rfl (lv_at hl 5 rfl) ?_
                          refine ni_eq (tgt := 260) hx hb dM_step_218 (by decide) (by omega) (by omega) (fun h1 => ?_) (fun h1 => ?_)
                          · exact absurd h1 hv9.2
                          · refine lv_iload hx hb dM_step_221 (lv_at hl 0 rfl) ?_
                            refine lv_bipush (v := nI 12) hx hb dM_step_223 (by decide) ?_
                            refine ni_gt (tgt := 260) hx hb dM_step_225 (by decide) (by omega) (by omega) (fun c_7 => ?_) (fun c_7 => ?_)
                            · exfalso; omega
                            · refine lv_aload_n hx hb dM_step_228 rfl (lv_at hl 4 rfl) ?_
                              refine va_get (D := (dC, dI)) (ci := 2) (v := .ref (mo 9)) (C := RM) (T := FM) (N := 19) hx hb hta iM hown hK hP 0 rfl rfl 16 (by decide) (hta _ m_508) (fun _ h9 => h9) rfl dM_step_229 ?_
                              refine lv_bipush (v := nI 13) hx hb dM_step_232 (by decide) ?_
                              refine lv_iload hx hb dM_step_234 (lv_at hl 1 rfl) ?_
                              refine lv_imul hx hb dM_step_236 ?_
                              refine st_i (y := nI (13 * v)) (pk_mul _ _) ?_
                              refine lv_iload hx hb dM_step_237 (lv_at hl 0 rfl) ?_
                              refine lv_iadd hx hb dM_step_239 ?_
                              refine st_i (y := nI ((13 * v) + k2)) (nI_add _ _) ?_
                              refine lv_aload_n hx hb dM_step_240 rfl (lv_at hl 4 rfl) ?_
                              refine va_get (D := (dC, dI)) (ci := 2) (v := .ref (mo 10)) (C := RM) (T := FM) (N := 19) hx hb hta iM hown hK hP 0 rfl rfl 17 (by decide) (hta _ m_509) (fun _ h9 => h9) rfl dM_step_241 ?_
                              refine lv_bipush (v := nI 13) hx hb dM_step_244 (by decide) ?_
                              refine lv_iload hx hb dM_step_246 (lv_at hl 1 rfl) ?_
                              refine lv_imul hx hb dM_step_248 ?_
                              refine st_i (y := nI (13 * v)) (pk_mul _ _) ?_
                              refine lv_iload hx hb dM_step_249 (lv_at hl 0 rfl) ?_
                              refine lv_iadd hx hb dM_step_251 ?_
                              refine st_i (y := nI ((13 * v) + k2)) (nI_add _ _) ?_
                              refine na_lald hx hb hK hP 10 9 rfl rfl (i := ((13 * v) + k2)) (by omega) (by decide) dM_step_252 ?_
                              refine na_last hx hb hK hP hD hS 9 8 rfl rfl (i := ((13 * v) + k2)) (x := tx ((13 * v) + k2)) (by omega) (by decide) dM_step_253 (fun H locs hP hD hS => ?_)
                              have hP : va_P (dC, dI) vwCl (MW mo km (mTn M (vp_updL u2 ((13 * v) + k2) (tx ((13 * v) + k2))) tx)) H := hP
                              have hD : va_D A (MW mo km (mTn M (vp_updL u2 ((13 * v) + k2) (tx ((13 * v) + k2))) tx)) := hD
                              refine lv_iinc (v := nI (k2 + 1)) (lv' := [(8, .int (nI (k2 + 1))), (7, .int (nI v)), (5, .int (nI (M.ou q))), (3, .long (M.ta (13 * le + q))), (0, .ref (mo 0)), (1, .int (nI le)), (2, .int (nI q))]) hx hb dM_step_254 hl (k := 0) rfl (nI_add k2 1) (by decide) rfl (fun ls hl => ?_)
                              refine lv_goto (tgt := 206) hx hb dM_step_257 (by decide) ?_
                              exact ih206 (k2 + 1) (vp_updL u2 ((13 * v) + k2) (tx ((13 * v) + k2))) H locs ls (by omega) (by rw [← hq6]; rfl) hP hD hS (lv_sub hl [0, 1, 2, 3, 4, 5, 6] rfl)
                    exact loop206 13 0 u H locs ls (by omega) rfl hP hD hS (lv_sub hl [0, 1, 2, 3, 4, 5, 6] rfl)
                  · refine lv_aload_n hx hb dM_step_206 rfl (lv_at hl 4 rfl) ?_
                    refine lv_iload hx hb dM_step_207 (lv_at hl 1 rfl) ?_
                    refine rd_call (va_runV (As := [.int (nI v)]) (rest := []) ⟨hx, hb, hml, hown, hta⟩ (c_M_isInside l dC dI mo km (mTn M u tx) v (by first | omega | assumption) (by first | omega | assumption) (by first | omega | assumption)) (cwV 1 hta (gV m_586 m_588 mp_41 m_4 m_589) rfl rfl rfl (by decide +kernel) ⟨Nat.le_of_ble_eq_true rfl, Nat.le_of_ble_eq_true rfl⟩) (rd_V xT_ok trivial hK hP (ci := 2) (q0 := 0) rfl rfl) rfl rfl hl.1 rfl (lv_room (Nat.le_of_ble_eq_true rfl)) dM_step_209 ⟨Nat.zero_le _, Nat.zero_le _⟩) ?_
                    refine W.eq (g2 := F0 m 212 ls [.int (bI (inB (mTn M u tx) v))]) rfl ?_
                    refine lb_eq (tgt := 260) hx hb dM_step_212 (by decide) (fun hi => ?_) (fun hi => ?_)
                    · refine lv_iinc (v := nI (v + 1)) (lv' := [(7, .int (nI (v + 1))), (8, .int (nI 0)), (5, .int (nI (M.ou q))), (3, .long (M.ta (13 * le + q))), (0, .ref (mo 0)), (1, .int (nI le)), (2, .int (nI q))]) hx hb dM_step_260 hl (k := 1) rfl (nI_add v 1) (by decide) rfl (fun ls hl => ?_)
                      refine lv_goto (tgt := 196) hx hb dM_step_263 (by decide) ?_
                      exact ih (v + 1) u H locs ls (by omega) (by rw [← hq5, cpO, if_neg hv9]) hP hD hS (lv_sub hl [0, 2, 3, 4, 5, 6] rfl)
                    · refine lv_iload hx hb dM_step_215 (lv_at hl 1 rfl) ?_
                      refine lv_iload_n hx hb dM_step_217 rfl (lv_at hl 5 rfl) ?_
                      refine ni_eq (tgt := 260) hx hb dM_step_218 (by decide) (by omega) (by omega) (fun h1 => ?_) (fun h1 => ?_)
                      · refine lv_iinc (v := nI (v + 1)) (lv' := [(7, .int (nI (v + 1))), (8, .int (nI 0)), (5, .int (nI (M.ou q))), (3, .long (M.ta (13 * le + q))), (0, .ref (mo 0)), (1, .int (nI le)), (2, .int (nI q))]) hx hb dM_step_260 hl (k := 1) rfl (nI_add v 1) (by decide) rfl (fun ls hl => ?_)
                        refine lv_goto (tgt := 196) hx hb dM_step_263 (by decide) ?_
                        exact ih (v + 1) u H locs ls (by omega) (by rw [← hq5, cpO, if_neg hv9]) hP hD hS (lv_sub hl [0, 2, 3, 4, 5, 6] rfl)
                      · exact absurd ⟨hi, h1⟩ hv9
            exact loop196 37 0 M.ta H locs ls (by omega) rfl hP hD hS (lv_sub hl [0, 2, 3, 4, 5, 6] rfl)
          · have e9 : spM M le q = (false, mNx M (spN M le q).1) := if_neg (by rw [hq0]; exact fun z => absurd (hb9.symm.trans z) (by decide))
            refine lv_iconst (v := 0) hx hb dM_step_191 (by decide) ?_
            exact W.zret (v := 0) hx hb hr (rfl) (fun t ht hW => ⟨congrArg (fun z => Outcome.returned (some (.int z))) (by rw [e9]; rfl), by rw [ht]; exact (by rw [e9, hq0]; exact hP), hS.F ht⟩) hS.2.2 dM_step_192
        · exfalso; omega
      | succ n ih =>
        intro v tx b H locs ls hn hq hP hD hS hl
        refine lv_iload hx hb dM_step_37 (lv_at hl 0 rfl) ?_
        refine lv_bipush (v := nI 36) hx hb dM_step_39 (by decide) ?_
        refine ni_gt (tgt := 186) hx hb dM_step_41 (by decide) (by omega) (by omega) (fun c_8 => ?_) (fun c_8 => ?_)
        · exfalso; omega
        · refine lv_aload_n hx hb dM_step_44 rfl (lv_at hl 4 rfl) ?_
          refine lv_iload hx hb dM_step_45 (lv_at hl 0 rfl) ?_
          refine rd_call (va_runV (As := [.int (nI v)]) (rest := []) ⟨hx, hb, hml, hown, hta⟩ (c_M_isInside l dC dI mo km (mNx M tx) v (by first | omega | assumption) (by first | omega | assumption) (by first | omega | assumption)) (cwV 1 hta (gV m_586 m_588 mp_41 m_4 m_589) rfl rfl rfl (by decide +kernel) ⟨Nat.le_of_ble_eq_true rfl, Nat.le_of_ble_eq_true rfl⟩) (rd_V xT_ok trivial hK hP (ci := 2) (q0 := 0) rfl rfl) rfl rfl hl.1 rfl (lv_room (Nat.le_of_ble_eq_true rfl)) dM_step_47 ⟨Nat.zero_le _, Nat.zero_le _⟩) ?_
          refine W.eq (g2 := F0 m 50 ls [.int (bI (inB (mNx M tx) v))]) rfl ?_
          refine lb_eq (tgt := 180) hx hb dM_step_50 (by decide) (fun hi => ?_) (fun hi => ?_)
          · refine lv_iinc (v := nI (v + 1)) (lv' := [(7, .int (nI (v + 1))), (6, .int (bI b)), (5, .int (nI (M.ou q))), (3, .long (M.ta (13 * le + q))), (0, .ref (mo 0)), (1, .int (nI le)), (2, .int (nI q))]) hx hb dM_step_180 hl (k := 0) rfl (nI_add v 1) (by decide) rfl (fun ls hl => ?_)
            refine lv_goto (tgt := 37) hx hb dM_step_183 (by decide) ?_
            exact ih (v + 1) tx b H locs ls (by omega) (by rw [← hq, spO]; first | (rw [if_neg (fun z => by rw [show inB M v = false from hi] at z; exact nomatch z.1)]; done) | (rw [if_neg (fun z => z.2 h1)]; done)) hP hD hS (lv_sub hl [0, 1, 2, 3, 4, 5, 6] rfl)
          · refine lv_iload hx hb dM_step_53 (lv_at hl 0 rfl) ?_
            refine lv_iload_n hx hb dM_step_55 rfl (lv_at hl 5 rfl) ?_
            refine ni_eq (tgt := 180) hx hb dM_step_56 (by decide) (by omega) (by omega) (fun h1 => ?_) (fun h1 => ?_)
            · refine lv_iinc (v := nI (v + 1)) (lv' := [(7, .int (nI (v + 1))), (6, .int (bI b)), (5, .int (nI (M.ou q))), (3, .long (M.ta (13 * le + q))), (0, .ref (mo 0)), (1, .int (nI le)), (2, .int (nI q))]) hx hb dM_step_180 hl (k := 0) rfl (nI_add v 1) (by decide) rfl (fun ls hl => ?_)
              refine lv_goto (tgt := 37) hx hb dM_step_183 (by decide) ?_
              exact ih (v + 1) tx b H locs ls (by omega) (by rw [← hq, spO]; first | (rw [if_neg (fun z => by rw [show inB M v = false from hi] at z; exact nomatch z.1)]; done) | (rw [if_neg (fun z => z.2 h1)]; done)) hP hD hS (lv_sub hl [0, 1, 2, 3, 4, 5, 6] rfl)
            · refine lv_aload_n hx hb dM_step_59 rfl (lv_at hl 4 rfl) ?_
              refine va_get (D := (dC, dI)) (ci := 2) (v := .ref (mo 9)) (C := RM) (T := FM) (N := 19) hx hb hta iM hown hK hP 0 rfl rfl 16 (by decide) (hta _ m_508) (fun _ h9 => h9) rfl dM_step_60 ?_
              refine lv_bipush (v := nI 13) hx hb dM_step_63 (by decide) ?_
              refine lv_iload hx hb dM_step_65 (lv_at hl 0 rfl) ?_
              refine lv_imul hx hb dM_step_67 ?_
              refine st_i (y := nI (13 * v)) (pk_mul _ _) ?_
              refine lv_iload_n hx hb dM_step_68 rfl (lv_at hl 6 rfl) ?_
              refine lv_iadd hx hb dM_step_69 ?_
              refine st_i (y := nI ((13 * v) + q)) (nI_add _ _) ?_
              refine na_lald hx hb hK hP 9 8 rfl rfl (i := ((13 * v) + q)) (by omega) (by decide) dM_step_70 ?_
              refine lv_lstore (lv' := [(8, .long (M.ta ((13 * v) + q))), (7, .int (nI v)), (6, .int (bI b)), (5, .int (nI (M.ou q))), (3, .long (M.ta (13 * le + q))), (0, .ref (mo 0)), (1, .int (nI le)), (2, .int (nI q))]) hx hb dM_step_71 hl (by decide) rfl (fun ls hl => ?_)
              refine lv_iconst (v := nI 0) hx hb dM_step_73 (by decide) ?_
              refine lv_istore (lv' := [(10, .int (nI 0)), (8, .long (M.ta ((13 * v) + q))), (7, .int (nI v)), (6, .int (bI b)), (5, .int (nI (M.ou q))), (3, .long (M.ta (13 * le + q))), (0, .ref (mo 0)), (1, .int (nI le)), (2, .int (nI q))]) hx hb dM_step_74 hl (by decide) rfl (fun ls hl => ?_)
              have loop76 : ∀ (n2 : Nat) (k2 : Nat) (t2 : Nat → Int64) (b2 : Bool) (H : Heap) (locs : List Loc) (ls : Array Slot), (k2 + n2 = 13) → (spI M le q v k2 n2 t2 b2 = spI M le q v 0 13 tx b) → va_P (dC, dI) vwCl (MW mo km (mNx M t2)) H → va_D A (MW mo km (mNx M t2)) → va_S A s.heap H locs → lv_has ls 11 [(10, .int (nI k2)), (8, .long (M.ta (13 * v + q))), (7, .int (nI v)), (6, .int (bI b2)), (5, .int (nI (M.ou q))), (3, .long (M.ta (13 * le + q))), (0, .ref (mo 0)), (1, .int (nI le)), (2, .int (nI q))] → W p l e (headSpec wM_step ({ frames := 1, cells := 0, slots := 0, locals := 21 })).room s m ([.ref (mo 0), .int (nI le), .int (nI q)] : List Value).toArray below meth c H locs 0 0 (MQ below (wQ (some (.int (bI (spM M le q).1))) (dC, dI) vwCl (MW mo km ((spM M le q).2)) A) ([.ref (mo 0), .int (nI le), .int (nI q)] : List Value).toArray s 0 0 A) (F0 m 76 ls []) := by
                intro n2
                induction n2 with
                | zero =>
                  intro k2 t2 b2 H locs ls hn2 hq2 hP hD hS hl
                  refine lv_iload hx hb dM_step_76 (lv_at hl 0 rfl) ?_
                  refine lv_bipush (v := nI 12) hx hb dM_step_78 (by decide) ?_
                  refine ni_gt (tgt := 180) hx hb dM_step_80 (by decide) (by omega) (by omega) (fun c_9 => ?_) (fun c_9 => ?_)
                  · refine lv_iinc (v := nI (v + 1)) (lv' := [(7, .int (nI (v + 1))), (10, .int (nI k2)), (8, .long (M.ta (13 * v + q))), (6, .int (bI b2)), (5, .int (nI (M.ou q))), (3, .long (M.ta (13 * le + q))), (0, .ref (mo 0)), (1, .int (nI le)), (2, .int (nI q))]) hx hb dM_step_180 hl (k := 2) rfl (nI_add v 1) (by decide) rfl (fun ls hl => ?_)
                    refine lv_goto (tgt := 37) hx hb dM_step_183 (by decide) ?_
                    exact ih (v + 1) t2 b2 H locs ls (by omega) (by rw [← hq, spO, if_pos ⟨hi, h1⟩, ← hq2]; rfl) hP hD hS (lv_sub hl [0, 3, 4, 5, 6, 7, 8] rfl)
                  · exfalso; omega
                | succ n2 ih76 =>
                  intro k2 t2 b2 H locs ls hn2 hq2 hP hD hS hl
                  refine lv_iload hx hb dM_step_76 (lv_at hl 0 rfl) ?_
                  refine lv_bipush (v := nI 12) hx hb dM_step_78 (by decide) ?_
                  refine ni_gt (tgt := 180) hx hb dM_step_80 (by decide) (by omega) (by omega) (fun c_10 => ?_) (fun c_10 => ?_)
                  · exfalso; omega
                  · refine lv_aload_n hx hb dM_step_83 rfl (lv_at hl 6 rfl) ?_
                    refine va_get (D := (dC, dI)) (ci := 2) (v := .ref (mo 10)) (C := RM) (T := FM) (N := 19) hx hb hta iM hown hK hP 0 rfl rfl 17 (by decide) (hta _ m_509) (fun _ h9 => h9) rfl dM_step_84 ?_
                    refine lv_bipush (v := nI 13) hx hb dM_step_87 (by decide) ?_
                    refine lv_iload hx hb dM_step_89 (lv_at hl 2 rfl) ?_
                    refine lv_imul hx hb dM_step_91 ?_
                    refine st_i (y := nI (13 * v)) (pk_mul _ _) ?_
                    refine lv_iload hx hb dM_step_92 (lv_at hl 0 rfl) ?_
                    refine lv_iadd hx hb dM_step_94 ?_
                    refine st_i (y := nI ((13 * v) + k2)) (nI_add _ _) ?_
                    have join142 : ∀ (ls : Array Slot), lv_has ls 11 [(10, .int (nI k2)), (8, .long (M.ta (13 * v + q))), (7, .int (nI v)), (6, .int (bI b2)), (5, .int (nI (M.ou q))), (3, .long (M.ta (13 * le + q))), (0, .ref (mo 0)), (1, .int (nI le)), (2, .int (nI q))] → W p l e (headSpec wM_step ({ frames := 1, cells := 0, slots := 0, locals := 21 })).room s m ([.ref (mo 0), .int (nI le), .int (nI q)] : List Value).toArray below meth c H locs 0 0 (MQ below (wQ (some (.int (bI (spM M le q).1))) (dC, dI) vwCl (MW mo km ((spM M le q).2)) A) ([.ref (mo 0), .int (nI le), .int (nI q)] : List Value).toArray s 0 0 A) (F0 m 142 ls [.long (spX M le q v k2), .int (nI (13 * v + k2)), .ref (mo 10)]) := by
                      intro ls hl
                      refine na_last hx hb hK hP hD hS 10 9 rfl rfl (i := (13 * v + k2)) (x := spX M le q v k2) (by omega) (by decide) dM_step_142 (fun H locs hP hD hS => ?_)
                      have hP : va_P (dC, dI) vwCl (MW mo km (mNx M (vp_updL t2 (13 * v + k2) (spX M le q v k2)))) H := hP
                      have hD : va_D A (MW mo km (mNx M (vp_updL t2 (13 * v + k2) (spX M le q v k2)))) := hD
                      have join172 : ∀ (ls : Array Slot), lv_has ls 11 [(10, .int (nI k2)), (8, .long (M.ta (13 * v + q))), (7, .int (nI v)), (6, .int (bI b2)), (5, .int (nI (M.ou q))), (3, .long (M.ta (13 * le + q))), (0, .ref (mo 0)), (1, .int (nI le)), (2, .int (nI q))] → W p l e (headSpec wM_step ({ frames := 1, cells := 0, slots := 0, locals := 21 })).room s m ([.ref (mo 0), .int (nI le), .int (nI q)] : List Value).toArray below meth c H locs 0 0 (MQ below (wQ (some (.int (bI (spM M le q).1))) (dC, dI) vwCl (MW mo km ((spM M le q).2)) A) ([.ref (mo 0), .int (nI le), .int (nI q)] : List Value).toArray s 0 0 A) (F0 m 172 ls [.int (bI (b2 && !isGrB (spX M le q v k2)))]) := by
                        intro ls hl
                        refine lv_istore (lv' := [(6, .int (bI (b2 && !isGrB (spX M le q v k2)))), (10, .int (nI k2)), (8, .long (M.ta (13 * v + q))), (7, .int (nI v)), (5, .int (nI (M.ou q))), (3, .long (M.ta (13 * le + q))), (0, .ref (mo 0)), (1, .int (nI le)), (2, .int (nI q))]) hx hb dM_step_172 hl (by decide) rfl (fun ls hl => ?_)
                        refine lv_iinc (v := nI (k2 + 1)) (lv' := [(10, .int (nI (k2 + 1))), (6, .int (bI (b2 && !isGrB (spX M le q v k2)))), (8, .long (M.ta (13 * v + q))), (7, .int (nI v)), (5, .int (nI (M.ou q))), (3, .long (M.ta (13 * le + q))), (0, .ref (mo 0)), (1, .int (nI le)), (2, .int (nI q))]) hx hb dM_step_174 hl (k := 1) rfl (nI_add k2 1) (by decide) rfl (fun ls hl => ?_)
                        refine lv_goto (tgt := 76) hx hb dM_step_177 (by decide) ?_
                        exact ih76 (k2 + 1) (vp_updL t2 (13 * v + k2) (spX M le q v k2)) ((b2 && !isGrB (spX M le q v k2))) H locs ls (by omega) (by rw [← hq2, spI]) hP hD hS (lv_sub hl [0, 2, 3, 1, 4, 5, 6, 7, 8] rfl)
                      refine lv_iload hx hb dM_step_143 (lv_at hl 3 rfl) ?_
                      refine lb_eq (tgt := 171) hx hb dM_step_145 (by decide) (fun h4 => ?_) (fun h4 => ?_)
                      · refine lv_iconst (v := 0) hx hb dM_step_171 (by decide) ?_
                        refine st_i (y := bI (b2 && !isGrB (spX M le q v k2))) (by first | (rw [h4]; rfl; done) | (rw [h4, h5]; rfl; done)) ?_
                        exact join172 ls (lv_sub hl [0, 1, 2, 3, 4, 5, 6, 7, 8] rfl)
                      · refine lv_aload_n hx hb dM_step_148 rfl (lv_at hl 6 rfl) ?_
                        refine va_get (D := (dC, dI)) (ci := 2) (v := .ref (mo 10)) (C := RM) (T := FM) (N := 19) hx hb hta iM hown hK hP 0 rfl rfl 17 (by decide) (hta _ m_509) (fun _ h9 => h9) rfl dM_step_149 ?_
                        refine lv_bipush (v := nI 13) hx hb dM_step_152 (by decide) ?_
                        refine lv_iload hx hb dM_step_154 (lv_at hl 2 rfl) ?_
                        refine lv_imul hx hb dM_step_156 ?_
                        refine st_i (y := nI (13 * v)) (pk_mul _ _) ?_
                        refine lv_iload hx hb dM_step_157 (lv_at hl 0 rfl) ?_
                        refine lv_iadd hx hb dM_step_159 ?_
                        refine st_i (y := nI ((13 * v) + k2)) (nI_add _ _) ?_
                        refine na_lald hx hb hK hP 10 9 rfl rfl (i := ((13 * v) + k2)) (by omega) (by decide) dM_step_160 ?_
                        refine st_l (y := spX M le q v k2) (by show vp_updL t2 (13 * v + k2) (spX M le q v k2) (13 * v + k2) = _; simp [vp_updL]) ?_
                        refine rd_call (va_runS (As := [.long (spX M le q v k2)]) (rest := []) ⟨hx, hb, hml, hown, hta⟩ (c_M_isGreat l dC dI mo km (spX M le q v k2)) (cwS 1 hta (gS m_594 m_595 m_4 m_596) rfl rfl rfl (by decide +kernel) ⟨Nat.le_of_ble_eq_true rfl, Nat.le_of_ble_eq_true rfl⟩) (rd_S xT_ok trivial (hK.sub [] rfl) va_P_nil) rfl rfl hl.1 rfl (lv_room (Nat.le_of_ble_eq_true rfl)) dM_step_161 ⟨Nat.zero_le _, Nat.zero_le _⟩) ?_
                        refine W.eq (g2 := F0 m 164 ls [.int (bI (isGrB (spX M le q v k2)))]) rfl ?_
                        refine lb_ne (tgt := 171) hx hb dM_step_164 (by decide) (fun h5 => ?_) (fun h5 => ?_)
                        · refine lv_iconst (v := 0) hx hb dM_step_171 (by decide) ?_
                          refine st_i (y := bI (b2 && !isGrB (spX M le q v k2))) (by first | (rw [h4]; rfl; done) | (rw [h4, h5]; rfl; done)) ?_
                          exact join172 ls (lv_sub hl [0, 1, 2, 3, 4, 5, 6, 7, 8] rfl)
                        · refine lv_iconst (v := 1) hx hb dM_step_167 (by decide) ?_
                          refine lv_goto (tgt := 172) hx hb dM_step_168 (by decide) ?_
                          refine st_i (y := bI (b2 && !isGrB (spX M le q v k2))) (by first | (rw [h4]; rfl; done) | (rw [h4, h5]; rfl; done)) ?_
                          exact join172 ls (lv_sub hl [0, 1, 2, 3, 4, 5, 6, 7, 8] rfl)
                    refine lv_iload hx hb dM_step_95 (lv_at hl 0 rfl) ?_
                    refine lv_iload_n hx hb dM_step_97 rfl (lv_at hl 8 rfl) ?_
                    refine ni_ne (tgt := 106) hx hb dM_step_98 (by decide) (by omega) (by omega) (fun h3 => ?_) (fun h3 => ?_)
                    · refine lv_aload_n hx hb dM_step_106 rfl (lv_at hl 6 rfl) ?_
                      refine va_get (D := (dC, dI)) (ci := 2) (v := .ref (mo 9)) (C := RM) (T := FM) (N := 19) hx hb hta iM hown hK hP 0 rfl rfl 16 (by decide) (hta _ m_508) (fun _ h9 => h9) rfl dM_step_107 ?_
                      refine lv_bipush (v := nI 13) hx hb dM_step_110 (by decide) ?_
                      refine lv_iload hx hb dM_step_112 (lv_at hl 2 rfl) ?_
                      refine lv_imul hx hb dM_step_114 ?_
                      refine st_i (y := nI (13 * v)) (pk_mul _ _) ?_
                      refine lv_iload hx hb dM_step_115 (lv_at hl 0 rfl) ?_
                      refine lv_iadd hx hb dM_step_117 ?_
                      refine st_i (y := nI ((13 * v) + k2)) (nI_add _ _) ?_
                      refine na_lald hx hb hK hP 9 8 rfl rfl (i := ((13 * v) + k2)) (by omega) (by decide) dM_step_118 ?_
                      refine lv_lload_n hx hb dM_step_119 rfl (lv_at hl 5 rfl) ?_
                      refine lv_lmul hx hb dM_step_120 ?_
                      refine lv_lload hx hb dM_step_121 (lv_at hl 1 rfl) ?_
                      refine lv_aload_n hx hb dM_step_123 rfl (lv_at hl 6 rfl) ?_
                      refine va_get (D := (dC, dI)) (ci := 2) (v := .ref (mo 9)) (C := RM) (T := FM) (N := 19) hx hb hta iM hown hK hP 0 rfl rfl 16 (by decide) (hta _ m_508) (fun _ h9 => h9) rfl dM_step_124 ?_
                      refine lv_bipush (v := nI 13) hx hb dM_step_127 (by decide) ?_
                      refine lv_iload_n hx hb dM_step_129 rfl (lv_at hl 7 rfl) ?_
                      refine lv_imul hx hb dM_step_130 ?_
                      refine st_i (y := nI (13 * le)) (pk_mul _ _) ?_
                      refine lv_iload hx hb dM_step_131 (lv_at hl 0 rfl) ?_
                      refine lv_iadd hx hb dM_step_133 ?_
                      refine st_i (y := nI ((13 * le) + k2)) (nI_add _ _) ?_
                      refine na_lald hx hb hK hP 9 8 rfl rfl (i := ((13 * le) + k2)) (by omega) (by decide) dM_step_134 ?_
                      refine lv_lmul hx hb dM_step_135 ?_
                      refine lv_lsub hx hb dM_step_136 ?_
                      refine lv_aload_n hx hb dM_step_137 rfl (lv_at hl 6 rfl) ?_
                      refine va_get (D := (dC, dI)) (ci := 2) (v := .long M.dn) (C := RM) (T := FM) (N := 19) hx hb hta iM hown hK hP 0 rfl rfl 13 (by decide) (hta _ m_505) (fun _ h9 => h9) rfl dM_step_138 ?_
                      refine lv_ldiv hx hb dM_step_141 (hdn) ?_
                      refine st_l (y := spX M le q v k2) (by first | (rw [spX, if_pos h3]; done) | (rw [spX, if_neg h3]; rfl)) ?_
                      exact join142 ls (lv_sub hl [0, 1, 2, 3, 4, 5, 6, 7, 8] rfl)
                    · refine lv_lload hx hb dM_step_101 (lv_at hl 1 rfl) ?_
                      refine lv_goto (tgt := 142) hx hb dM_step_103 (by decide) ?_
                      refine st_l (y := spX M le q v k2) (by first | (rw [spX, if_pos h3]; done) | (rw [spX, if_neg h3]; rfl)) ?_
                      exact join142 ls (lv_sub hl [0, 1, 2, 3, 4, 5, 6, 7, 8] rfl)
              exact loop76 13 0 tx b H locs ls (by omega) rfl hP hD hS (lv_sub hl [0, 1, 2, 3, 4, 5, 6, 7, 8] rfl)
    exact loop37 37 0 M.nx (!isGrB (M.ta (13 * le + q))) s.heap [] ls (by omega) rfl hP hD hS (lv_sub hl [0, 1, 2, 3, 4, 5, 6] rfl)
  refine lv_lload_n hx hb dM_step_20 rfl (lv_at hl 1 rfl) ?_
  refine rd_call (va_runS (As := [.long (M.ta ((13 * le) + q))]) (rest := []) ⟨hx, hb, hml, hown, hta⟩ (c_M_isGreat l dC dI mo km (M.ta ((13 * le) + q))) (cwS 1 hta (gS m_594 m_595 m_4 m_596) rfl rfl rfl (by decide +kernel) ⟨Nat.le_of_ble_eq_true rfl, Nat.le_of_ble_eq_true rfl⟩) (rd_S xT_ok trivial (hK.sub [] rfl) va_P_nil) rfl rfl hl.1 rfl (lv_room (Nat.le_of_ble_eq_true rfl)) dM_step_21 ⟨Nat.zero_le _, Nat.zero_le _⟩) ?_
  refine W.eq (g2 := F0 m 24 ls [.int (bI (isGrB (M.ta ((13 * le) + q))))]) rfl ?_
  refine lb_ne (tgt := 31) hx hb dM_step_24 (by decide) (fun h0 => ?_) (fun h0 => ?_)
  · refine lv_iconst (v := 0) hx hb dM_step_31 (by decide) ?_
    refine st_i (y := bI (!isGrB (M.ta (13 * le + q)))) (by rw [h0]; rfl) ?_
    exact join32 ls (lv_sub hl [0, 1, 2, 3, 4] rfl)
  · refine lv_iconst (v := 1) hx hb dM_step_27 (by decide) ?_
    refine lv_goto (tgt := 32) hx hb dM_step_28 (by decide) ?_
    refine st_i (y := bI (!isGrB (M.ta (13 * le + q)))) (by rw [h0]; rfl) ?_
    exact join32 ls (lv_sub hl [0, 1, 2, 3, 4] rfl)
