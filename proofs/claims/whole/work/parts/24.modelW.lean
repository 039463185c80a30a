set_option maxHeartbeats 4000000 in
set_option maxRecDepth 100000 in
theorem c_M_add (l : Launch) (dC : Nat → ClassId) (dI : Nat → Nat → Nat) (mo : Nat → Nat) (km : Nat → ClassId) (M : MS) (sz : Nat) (kd wk : Int32) (b : Int64) (hro : M.ro < 12) : Met l yM_add wM_add ({ frames := 0, cells := 0, slots := 0, locals := 0 }) (wPc [.ref (mo 0), .int kd, .int wk, .long b] sz (dC, dI) vwCl (MW mo km M) (MK km) xT) (wQ (some (.int (nI M.ro))) (dC, dI) vwCl (MW mo km (adM M kd wk b)) (va_A (MW mo km M) sz)) 0 0 (va_A (MW mo km M) sz) := by
  refine Met.ofW (cc := bM_add) (maxL := 5) (ret := (some .int)) (by decide) rfl ?_
  intro p e s m args below meth c s₁ B hml hv
  obtain ⟨rfl, hsz, hP, hK, hD0, hX⟩ := hv
  have hx := B.exec
  have hb := B.bytes
  have hr := B.returns
  have hts := atoms_spec (ws := wM_add) B.pre
  have hta : ∀ w ∈ AW, w.before _ s = true := fun w h => hts w (List.mem_cons_of_mem _ h)
  have hown : s.vm.findClass RM = some m.cls := findClass_of_methodNamed B.named
  have hlocks := B.notSynchronized
  subst hsz
  have hD := hD0.self (sz := s.heap.size)
  generalize hAe : va_A (MW mo km M) s.heap.size = A at hD ⊢
  have hA : ∀ q : Nat, s.heap.size ≤ q → A q := fun q h => by rw [← hAe]; exact Or.inr h
  have hS : va_S A s.heap s.heap [] := va_S.rf
  have hl := lv_entry ([.ref (mo 0), .int kd, .int wk, .long b]) (n := 5) (Nat.le_of_ble_eq_true rfl)
  rw [lg_entry_eq]
  generalize (lg_sl ([.ref (mo 0), .int kd, .int wk, .long b]) ++ List.replicate (5 - (lg_sl ([.ref (mo 0), .int kd, .int wk, .long b])).length) Slot.unset).toArray = ls at hl ⊢
  have hl : lv_has ls 5 [(0, .ref (mo 0)), (1, .int kd), (2, .int wk), (3, .long b)] := hl
  refine lv_aload_n hx hb dM_add_0 rfl (lv_at hl 0 rfl) ?_
  refine va_get (D := (dC, dI)) (ci := 2) (v := .ref (mo 2)) (C := RM) (T := FM) (N := 19) hx hb hta iM hown hK hP 0 rfl rfl 5 (by decide) (hta _ m_497) (fun _ h9 => h9) rfl dM_add_1 ?_
  refine lv_aload_n hx hb dM_add_4 rfl (lv_at hl 0 rfl) ?_
  refine va_get (D := (dC, dI)) (ci := 2) (v := .int (nI M.ro)) (C := RM) (T := FM) (N := 19) hx hb hta iM hown hK hP 0 rfl rfl 4 (by decide) (hta _ m_496) (fun _ h9 => h9) rfl dM_add_5 ?_
  refine lv_iload_n hx hb dM_add_8 rfl (lv_at hl 1 rfl) ?_
  refine na_iast hx hb hK hP hD hS 2 1 rfl rfl (i := M.ro) (x := kd) (by omega) (by decide) dM_add_9 (fun H locs hP hD hS => ?_)
  have hP : va_P (dC, dI) vwCl (MW mo km (ms M.thr M.wk M.co M.cs M.ro (upd M.ki M.ro kd) M.wo M.ri M.fa M.li M.ln M.hr M.st M.dn M.pl M.ou M.ta M.nx M.ag)) H := hP
  have hD : va_D A (MW mo km (ms M.thr M.wk M.co M.cs M.ro (upd M.ki M.ro kd) M.wo M.ri M.fa M.li M.ln M.hr M.st M.dn M.pl M.ou M.ta M.nx M.ag)) := hD
  refine lv_aload_n hx hb dM_add_10 rfl (lv_at hl 0 rfl) ?_
  refine va_get (D := (dC, dI)) (ci := 2) (v := .ref (mo 3)) (C := RM) (T := FM) (N := 19) hx hb hta iM hown hK hP 0 rfl rfl 6 (by decide) (hta _ m_498) (fun _ h9 => h9) rfl dM_add_11 ?_
  refine lv_aload_n hx hb dM_add_14 rfl (lv_at hl 0 rfl) ?_
  refine va_get (D := (dC, dI)) (ci := 2) (v := .int (nI M.ro)) (C := RM) (T := FM) (N := 19) hx hb hta iM hown hK hP 0 rfl rfl 4 (by decide) (hta _ m_496) (fun _ h9 => h9) rfl dM_add_15 ?_
  refine lv_iload_n hx hb dM_add_18 rfl (lv_at hl 2 rfl) ?_
  refine na_iast hx hb hK hP hD hS 3 2 rfl rfl (i := M.ro) (x := wk) (by omega) (by decide) dM_add_19 (fun H locs hP hD hS => ?_)
  have hP : va_P (dC, dI) vwCl (MW mo km (ms M.thr M.wk M.co M.cs M.ro (upd M.ki M.ro kd) (upd M.wo M.ro wk) M.ri M.fa M.li M.ln M.hr M.st M.dn M.pl M.ou M.ta M.nx M.ag)) H := hP
  have hD : va_D A (MW mo km (ms M.thr M.wk M.co M.cs M.ro (upd M.ki M.ro kd) (upd M.wo M.ro wk) M.ri M.fa M.li M.ln M.hr M.st M.dn M.pl M.ou M.ta M.nx M.ag)) := hD
  refine lv_aload_n hx hb dM_add_20 rfl (lv_at hl 0 rfl) ?_
  refine va_get (D := (dC, dI)) (ci := 2) (v := .ref (mo 4)) (C := RM) (T := FM) (N := 19) hx hb hta iM hown hK hP 0 rfl rfl 7 (by decide) (hta _ m_499) (fun _ h9 => h9) rfl dM_add_21 ?_
  refine lv_aload_n hx hb dM_add_24 rfl (lv_at hl 0 rfl) ?_
  refine va_get (D := (dC, dI)) (ci := 2) (v := .int (nI M.ro)) (C := RM) (T := FM) (N := 19) hx hb hta iM hown hK hP 0 rfl rfl 4 (by decide) (hta _ m_496) (fun _ h9 => h9) rfl dM_add_25 ?_
  refine lv_lload_n hx hb dM_add_28 rfl (lv_at hl 3 rfl) ?_
  refine na_last hx hb hK hP hD hS 4 3 rfl rfl (i := M.ro) (x := b) (by omega) (by decide) dM_add_29 (fun H locs hP hD hS => ?_)
  have hP : va_P (dC, dI) vwCl (MW mo km (ms M.thr M.wk M.co M.cs M.ro (upd M.ki M.ro kd) (upd M.wo M.ro wk) (vp_updL M.ri M.ro b) M.fa M.li M.ln M.hr M.st M.dn M.pl M.ou M.ta M.nx M.ag)) H := hP
  have hD : va_D A (MW mo km (ms M.thr M.wk M.co M.cs M.ro (upd M.ki M.ro kd) (upd M.wo M.ro wk) (vp_updL M.ri M.ro b) M.fa M.li M.ln M.hr M.st M.dn M.pl M.ou M.ta M.nx M.ag)) := hD
  refine lv_aload_n hx hb dM_add_30 rfl (lv_at hl 0 rfl) ?_
  refine lv_dup hx hb dM_add_31 rfl ?_
  refine va_get (D := (dC, dI)) (ci := 2) (v := .int (nI M.ro)) (C := RM) (T := FM) (N := 19) hx hb hta iM hown hK hP 0 rfl rfl 4 (by decide) (hta _ m_496) (fun _ h9 => h9) rfl dM_add_32 ?_
  refine lv_iconst (v := nI 1) hx hb dM_add_35 (by decide) ?_
  refine lv_iadd hx hb dM_add_36 ?_
  refine st_i (y := nI (M.ro + 1)) (nI_add _ _) ?_
  refine va_put (D := (dC, dI)) (ci := 2) (v := .int (nI (M.ro + 1))) (ty := .int) (C := RM) (T := FM) (N := 19) hx hb hta iM tM tM_ok nM hown hK hP hD hS 0 rfl rfl 4 (by decide) (hta _ m_496) (fun _ h9 => h9) rfl (by decide +kernel) rfl rfl (Nat.le_of_ble_eq_true rfl) dM_add_37 (fun H locs hP hD hS => ?_)
  have hP : va_P (dC, dI) vwCl (MW mo km (ms M.thr M.wk M.co M.cs (M.ro + 1) (upd M.ki M.ro kd) (upd M.wo M.ro wk) (vp_updL M.ri M.ro b) M.fa M.li M.ln M.hr M.st M.dn M.pl M.ou M.ta M.nx M.ag)) H := hP
  have hD : va_D A (MW mo km (ms M.thr M.wk M.co M.cs (M.ro + 1) (upd M.ki M.ro kd) (upd M.wo M.ro wk) (vp_updL M.ri M.ro b) M.fa M.li M.ln M.hr M.st M.dn M.pl M.ou M.ta M.nx M.ag)) := hD
  refine lv_aload_n hx hb dM_add_40 rfl (lv_at hl 0 rfl) ?_
  refine va_get (D := (dC, dI)) (ci := 2) (v := .int (nI (M.ro + 1))) (C := RM) (T := FM) (N := 19) hx hb hta iM hown hK hP 0 rfl rfl 4 (by decide) (hta _ m_496) (fun _ h9 => h9) rfl dM_add_41 ?_
  refine lv_iconst (v := nI 1) hx hb dM_add_44 (by decide) ?_
  refine lv_isub hx hb dM_add_45 ?_
  refine st_i (y := nI M.ro) (nI_pred _) ?_
  exact W.iret (v := nI M.ro) hx hb hr (fun t ht hW => ⟨rfl, by rw [ht]; exact hP, hS.F ht⟩) hS.2.2 dM_add_46

set_option maxHeartbeats 4000000 in
set_option maxRecDepth 100000 in
theorem c_M_comes (l : Launch) (dC : Nat → ClassId) (dI : Nat → Nat → Nat) (mo : Nat → Nat) (km : Nat → ClassId) (M : MS) (sz : Nat) (r : Nat) (hpl : ∀ v k, M.pl v = some k → k < 12) (hco : M.co ≤ 12) (hr9 : r < 12) (hcl : M.co + M.ln + lnM M.ki r ≤ 36) : Met l yM_comes wM_comes ({ frames := 1, cells := 0, slots := 0, locals := 27 }) (wPc [.ref (mo 0), .int (nI r)] sz (dC, dI) vwCl (MW mo km M) (MK km) xT) (wQ (some (.int (bI (cmM M r).1))) (dC, dI) vwCl (MW mo km ((cmM M r).2)) (va_A (MW mo km M) sz)) 0 0 (va_A (MW mo km M) sz) := by
  refine Met.ofW (cc := bM_comes) (maxL := 9) (ret := (some .boolean)) (by decide) rfl ?_
  intro p e s m args below meth c s₁ B hml hv
  obtain ⟨rfl, hsz, hP, hK, hD0, hX⟩ := hv
  have hx := B.exec
  have hb := B.bytes
  have hr := B.returns
  have hts := atoms_spec (ws := wM_comes) B.pre
  have hta : ∀ w ∈ AW, w.before _ s = true := fun w h => hts w (List.mem_cons_of_mem _ h)
  have hown : s.vm.findClass RM = some m.cls := findClass_of_methodNamed B.named
  have hlocks := B.notSynchronized
  subst hsz
  have hD := hD0.self (sz := s.heap.size)
  generalize hAe : va_A (MW mo km M) s.heap.size = A at hD ⊢
  have hA : ∀ q : Nat, s.heap.size ≤ q → A q := fun q h => by rw [← hAe]; exact Or.inr h
  have hS : va_S A s.heap s.heap [] := va_S.rf
  have hl := lv_entry ([.ref (mo 0), .int (nI r)]) (n := 9) (Nat.le_of_ble_eq_true rfl)
  rw [lg_entry_eq]
  generalize (lg_sl ([.ref (mo 0), .int (nI r)]) ++ List.replicate (9 - (lg_sl ([.ref (mo 0), .int (nI r)])).length) Slot.unset).toArray = ls at hl ⊢
  have hl : lv_has ls 9 [(0, .ref (mo 0)), (1, .int (nI r))] := hl
  refine lv_iconst (v := 1) hx hb dM_comes_0 (by decide) ?_
  refine lv_istore_n (lv' := [(2, .int 1), (0, .ref (mo 0)), (1, .int (nI r))]) hx hb dM_comes_1 rfl hl (by decide) rfl (fun ls hl => ?_)
  refine lv_iconst (v := nI 0) hx hb dM_comes_2 (by decide) ?_
  refine lv_istore_n (lv' := [(3, .int (nI 0)), (2, .int 1), (0, .ref (mo 0)), (1, .int (nI r))]) hx hb dM_comes_3 rfl hl (by decide) rfl (fun ls hl => ?_)
  have loop4 : ∀ (n : Nat) (i : Nat) (b : Bool) (ls : Array Slot), (i + n = M.co + 1) → (cmF M r i n b = cmF M r 0 (M.co + 1) true) → lv_has ls 9 [(3, .int (nI i)), (2, .int (bI b)), (0, .ref (mo 0)), (1, .int (nI r))] → W p l e (headSpec wM_comes ({ frames := 1, cells := 0, slots := 0, locals := 27 })).room s m ([.ref (mo 0), .int (nI r)] : List Value).toArray below meth c s.heap [] 0 0 (MQ below (wQ (some (.int (bI (cmM M r).1))) (dC, dI) vwCl (MW mo km ((cmM M r).2)) A) ([.ref (mo 0), .int (nI r)] : List Value).toArray s 0 0 A) (F0 m 4 ls []) := by
    intro n
    induction n with
    | zero =>
      intro i b ls hn hq hl
      refine lv_iload_n hx hb dM_comes_4 rfl (lv_at hl 0 rfl) ?_
      refine lv_aload_n hx hb dM_comes_5 rfl (lv_at hl 2 rfl) ?_
      refine va_get (D := (dC, dI)) (ci := 2) (v := .int (nI M.co)) (C := RM) (T := FM) (N := 19) hx hb hta iM hown hK hP 0 rfl rfl 2 (by decide) (hta _ m_494) (fun _ h9 => h9) rfl dM_comes_6 ?_
      refine ni_gt (tgt := 57) hx hb dM_comes_9 (by decide) (by omega) (by omega) (fun c_1 => ?_) (fun c_1 => ?_)
      · refine lv_iload_n hx hb dM_comes_57 rfl (lv_at hl 1 rfl) ?_
        refine lb_ne (tgt := 63) hx hb dM_comes_58 (by decide) (fun hb9 => ?_) (fun hb9 => ?_)
        · have e9 : cmM M r = (true, _) := if_pos (by rw [← hq]; exact hb9)
          have join78 : ∀ (ls : Array Slot), lv_has ls 9 [(3, .int (nI i)), (2, .int (bI b)), (0, .ref (mo 0)), (1, .int (nI r))] → W p l e (headSpec wM_comes ({ frames := 1, cells := 0, slots := 0, locals := 27 })).room s m ([.ref (mo 0), .int (nI r)] : List Value).toArray below meth c s.heap [] 0 0 (MQ below (wQ (some (.int (bI (cmM M r).1))) (dC, dI) vwCl (MW mo km ((cmM M r).2)) A) ([.ref (mo 0), .int (nI r)] : List Value).toArray s 0 0 A) (F0 m 78 ls [.int (nI (lnM M.ki r))]) := by
            intro ls hl
            refine lv_istore_n (lv' := [(3, .int (nI (lnM M.ki r))), (2, .int (bI b)), (0, .ref (mo 0)), (1, .int (nI r))]) hx hb dM_comes_78 rfl hl (by decide) rfl (fun ls hl => ?_)
            refine lv_iconst (v := nI 0) hx hb dM_comes_79 (by decide) ?_
            refine lv_istore (lv' := [(4, .int (nI 0)), (3, .int (nI (lnM M.ki r))), (2, .int (bI b)), (0, .ref (mo 0)), (1, .int (nI r))]) hx hb dM_comes_80 hl (by decide) rfl (fun ls hl => ?_)
            have loop82 : ∀ (n2 : Nat) (j : Nat) (t : Nat → Int64) (H : Heap) (locs : List Loc) (ls : Array Slot), (j + n2 = lnM M.ki r) → (cmO M r j n2 t = cmO M r 0 (lnM M.ki r) M.ta) → va_P (dC, dI) vwCl (MW mo km (mTa M t)) H → va_D A (MW mo km (mTa M t)) → va_S A s.heap H locs → lv_has ls 9 [(4, .int (nI j)), (3, .int (nI (lnM M.ki r))), (2, .int (bI b)), (0, .ref (mo 0)), (1, .int (nI r))] → W p l e (headSpec wM_comes ({ frames := 1, cells := 0, slots := 0, locals := 27 })).room s m ([.ref (mo 0), .int (nI r)] : List Value).toArray below meth c H locs 0 0 (MQ below (wQ (some (.int (bI (cmM M r).1))) (dC, dI) vwCl (MW mo km ((cmM M r).2)) A) ([.ref (mo 0), .int (nI r)] : List Value).toArray s 0 0 A) (F0 m 82 ls []) := by
              intro n2
              induction n2 with
              | zero =>
                intro j t H locs ls hn2 hq2 hP hD hS hl
                have hln := lnM_le M.ki r
                refine lv_iload hx hb dM_comes_82 (lv_at hl 0 rfl) ?_
                refine lv_iload_n hx hb dM_comes_84 rfl (lv_at hl 1 rfl) ?_
                refine ni_ge (tgt := 203) hx hb dM_comes_85 (by decide) (by omega) (by omega) (fun c_2 => ?_) (fun c_2 => ?_)
                · refine lv_aload_n hx hb dM_comes_203 rfl (lv_at hl 3 rfl) ?_
                  refine va_get (D := (dC, dI)) (ci := 2) (v := .ref (mo 6)) (C := RM) (T := FM) (N := 19) hx hb hta iM hown hK hP 0 rfl rfl 9 (by decide) (hta _ m_501) (fun _ h9 => h9) rfl dM_comes_204 ?_
                  refine lv_iload_n hx hb dM_comes_207 rfl (lv_at hl 4 rfl) ?_
                  refine lv_aload_n hx hb dM_comes_208 rfl (lv_at hl 3 rfl) ?_
                  refine va_get (D := (dC, dI)) (ci := 2) (v := .int (nI M.co)) (C := RM) (T := FM) (N := 19) hx hb hta iM hown hK hP 0 rfl rfl 2 (by decide) (hta _ m_494) (fun _ h9 => h9) rfl dM_comes_209 ?_
                  refine lv_aload_n hx hb dM_comes_212 rfl (lv_at hl 3 rfl) ?_
                  refine va_get (D := (dC, dI)) (ci := 2) (v := .int (nI M.ln)) (C := RM) (T := FM) (N := 19) hx hb hta iM hown hK hP 0 rfl rfl 10 (by decide) (hta _ m_502) (fun _ h9 => h9) rfl dM_comes_213 ?_
                  refine lv_iadd hx hb dM_comes_216 ?_
                  refine st_i (y := nI (M.co + M.ln)) (nI_add _ _) ?_
                  refine na_iast hx hb hK hP hD hS 6 5 rfl rfl (i := r) (x := enc (some (M.co + M.ln))) (by omega) (by decide) dM_comes_217 (fun H locs hP hD hS => ?_)
                  rw [encF_up] at hP hD
                  have hP : va_P (dC, dI) vwCl (MW mo km (ms M.thr M.wk M.co M.cs M.ro M.ki M.wo M.ri M.fa (va_up M.li r (some (M.co + M.ln))) M.ln M.hr M.st M.dn M.pl M.ou t M.nx M.ag)) H := hP
                  have hD : va_D A (MW mo km (ms M.thr M.wk M.co M.cs M.ro M.ki M.wo M.ri M.fa (va_up M.li r (some (M.co + M.ln))) M.ln M.hr M.st M.dn M.pl M.ou t M.nx M.ag)) := hD
                  refine lv_aload_n hx hb dM_comes_218 rfl (lv_at hl 3 rfl) ?_
                  refine lv_dup hx hb dM_comes_219 rfl ?_
                  refine va_get (D := (dC, dI)) (ci := 2) (v := .int (nI M.ln)) (C := RM) (T := FM) (N := 19) hx hb hta iM hown hK hP 0 rfl rfl 10 (by decide) (hta _ m_502) (fun _ h9 => h9) rfl dM_comes_220 ?_
                  refine lv_iload_n hx hb dM_comes_223 rfl (lv_at hl 1 rfl) ?_
                  refine lv_iadd hx hb dM_comes_224 ?_
                  refine st_i (y := nI (M.ln + (lnM M.ki r))) (nI_add _ _) ?_
                  refine va_put (D := (dC, dI)) (ci := 2) (v := .int (nI (M.ln + (lnM M.ki r)))) (ty := .int) (C := RM) (T := FM) (N := 19) hx hb hta iM tM tM_ok nM hown hK hP hD hS 0 rfl rfl 10 (by decide) (hta _ m_502) (fun _ h9 => h9) rfl (by decide +kernel) rfl rfl (Nat.le_of_ble_eq_true rfl) dM_comes_225 (fun H locs hP hD hS => ?_)
                  have hP : va_P (dC, dI) vwCl (MW mo km (ms M.thr M.wk M.co M.cs M.ro M.ki M.wo M.ri M.fa (va_up M.li r (some (M.co + M.ln))) (M.ln + (lnM M.ki r)) M.hr M.st M.dn M.pl M.ou t M.nx M.ag)) H := hP
                  have hD : va_D A (MW mo km (ms M.thr M.wk M.co M.cs M.ro M.ki M.wo M.ri M.fa (va_up M.li r (some (M.co + M.ln))) (M.ln + (lnM M.ki r)) M.hr M.st M.dn M.pl M.ou t M.nx M.ag)) := hD
                  refine lv_iconst (v := 1) hx hb dM_comes_228 (by decide) ?_
                  exact W.zret (v := 1) hx hb hr (rfl) (fun t ht hW => ⟨congrArg (fun z => Outcome.returned (some (.int z))) (by rw [e9]; rfl), by rw [ht]; exact (by rw [e9, ← hq2]; exact hP), hS.F ht⟩) hS.2.2 dM_comes_229
                · exfalso; omega
              | succ n2 ih82 =>
                intro j t H locs ls hn2 hq2 hP hD hS hl
                have hln := lnM_le M.ki r
                refine lv_iload hx hb dM_comes_82 (lv_at hl 0 rfl) ?_
                refine lv_iload_n hx hb dM_comes_84 rfl (lv_at hl 1 rfl) ?_
                refine ni_ge (tgt := 203) hx hb dM_comes_85 (by decide) (by omega) (by omega) (fun c_3 => ?_) (fun c_3 => ?_)
                · exfalso; omega
                · refine lv_aload_n hx hb dM_comes_88 rfl (lv_at hl 3 rfl) ?_
                  refine va_get (D := (dC, dI)) (ci := 2) (v := .int (nI M.co)) (C := RM) (T := FM) (N := 19) hx hb hta iM hown hK hP 0 rfl rfl 2 (by decide) (hta _ m_494) (fun _ h9 => h9) rfl dM_comes_89 ?_
                  refine lv_aload_n hx hb dM_comes_92 rfl (lv_at hl 3 rfl) ?_
                  refine va_get (D := (dC, dI)) (ci := 2) (v := .int (nI M.ln)) (C := RM) (T := FM) (N := 19) hx hb hta iM hown hK hP 0 rfl rfl 10 (by decide) (hta _ m_502) (fun _ h9 => h9) rfl dM_comes_93 ?_
                  refine lv_iadd hx hb dM_comes_96 ?_
                  refine st_i (y := nI (M.co + M.ln)) (nI_add _ _) ?_
                  refine lv_iload hx hb dM_comes_97 (lv_at hl 0 rfl) ?_
                  refine lv_iadd hx hb dM_comes_99 ?_
                  refine st_i (y := nI ((M.co + M.ln) + j)) (nI_add _ _) ?_
                  refine lv_istore (lv' := [(5, .int (nI ((M.co + M.ln) + j))), (4, .int (nI j)), (3, .int (nI (lnM M.ki r))), (2, .int (bI b)), (0, .ref (mo 0)), (1, .int (nI r))]) hx hb dM_comes_100 hl (by decide) rfl (fun ls hl => ?_)
                  have join123 : ∀ (ls : Array Slot), lv_has ls 9 [(5, .int (nI ((M.co + M.ln) + j))), (4, .int (nI j)), (3, .int (nI (lnM M.ki r))), (2, .int (bI b)), (0, .ref (mo 0)), (1, .int (nI r))] → W p l e (headSpec wM_comes ({ frames := 1, cells := 0, slots := 0, locals := 27 })).room s m ([.ref (mo 0), .int (nI r)] : List Value).toArray below meth c H locs 0 0 (MQ below (wQ (some (.int (bI (cmM M r).1))) (dC, dI) vwCl (MW mo km ((cmM M r).2)) A) ([.ref (mo 0), .int (nI r)] : List Value).toArray s 0 0 A) (F0 m 123 ls [.int (bI (tuB M r j))]) := by
                    intro ls hl
                    refine lv_istore (lv' := [(6, .int (bI (tuB M r j))), (5, .int (nI ((M.co + M.ln) + j))), (4, .int (nI j)), (3, .int (nI (lnM M.ki r))), (2, .int (bI b)), (0, .ref (mo 0)), (1, .int (nI r))]) hx hb dM_comes_123 hl (by decide) rfl (fun ls hl => ?_)
                    refine lv_iconst (v := nI 0) hx hb dM_comes_125 (by decide) ?_
                    refine lv_istore (lv' := [(7, .int (nI 0)), (6, .int (bI (tuB M r j))), (5, .int (nI ((M.co + M.ln) + j))), (4, .int (nI j)), (3, .int (nI (lnM M.ki r))), (2, .int (bI b)), (0, .ref (mo 0)), (1, .int (nI r))]) hx hb dM_comes_126 hl (by decide) rfl (fun ls hl => ?_)
                    have loop128 : ∀ (n3 : Nat) (k3 : Nat) (t3 : Nat → Int64) (H : Heap) (locs : List Loc) (ls : Array Slot), (k3 + n3 = M.co + 1) → (cmI M r (M.co + M.ln + j) (tuB M r j) k3 n3 t3 = cmI M r (M.co + M.ln + j) (tuB M r j) 0 (M.co + 1) t) → va_P (dC, dI) vwCl (MW mo km (mTa M t3)) H → va_D A (MW mo km (mTa M t3)) → va_S A s.heap H locs → lv_has ls 9 [(7, .int (nI k3)), (6, .int (bI (tuB M r j))), (5, .int (nI (M.co + M.ln + j))), (4, .int (nI j)), (3, .int (nI (lnM M.ki r))), (2, .int (bI b)), (0, .ref (mo 0)), (1, .int (nI r))] → W p l e (headSpec wM_comes ({ frames := 1, cells := 0, slots := 0, locals := 27 })).room s m ([.ref (mo 0), .int (nI r)] : List Value).toArray below meth c H locs 0 0 (MQ below (wQ (some (.int (bI (cmM M r).1))) (dC, dI) vwCl (MW mo km ((cmM M r).2)) A) ([.ref (mo 0), .int (nI r)] : List Value).toArray s 0 0 A) (F0 m 128 ls []) := by
                      intro n3
                      induction n3 with
                      | zero =>
                        intro k3 t3 H locs ls hn3 hq3 hP hD hS hl
                        refine lv_iload hx hb dM_comes_128 (lv_at hl 0 rfl) ?_
                        refine lv_aload_n hx hb dM_comes_130 rfl (lv_at hl 6 rfl) ?_
                        refine va_get (D := (dC, dI)) (ci := 2) (v := .int (nI M.co)) (C := RM) (T := FM) (N := 19) hx hb hta iM hown hK hP 0 rfl rfl 2 (by decide) (hta _ m_494) (fun _ h9 => h9) rfl dM_comes_131 ?_
                        refine ni_gt (tgt := 197) hx hb dM_comes_134 (by decide) (by omega) (by omega) (fun c_4 => ?_) (fun c_4 => ?_)
                        · refine lv_iinc (v := nI (j + 1)) (lv' := [(4, .int (nI (j + 1))), (7, .int (nI k3)), (6, .int (bI (tuB M r j))), (5, .int (nI (M.co + M.ln + j))), (3, .int (nI (lnM M.ki r))), (2, .int (bI b)), (0, .ref (mo 0)), (1, .int (nI r))]) hx hb dM_comes_197 hl (k := 3) rfl (nI_add j 1) (by decide) rfl (fun ls hl => ?_)
                          refine lv_goto (tgt := 82) hx hb dM_comes_200 (by decide) ?_
                          exact ih82 (j + 1) (t3) H locs ls (by omega) (by rw [← hq2, cmO, show cmI M r (M.co + M.ln + j) (tuB M r j) 0 (M.co + 1) t = t3 from hq3.symm]) hP hD hS (lv_sub hl [0, 4, 5, 6, 7] rfl)
                        · exfalso; omega
                      | succ n3 ih128 =>
                        intro k3 t3 H locs ls hn3 hq3 hP hD hS hl
                        refine lv_iload hx hb dM_comes_128 (lv_at hl 0 rfl) ?_
                        refine lv_aload_n hx hb dM_comes_130 rfl (lv_at hl 6 rfl) ?_
                        refine va_get (D := (dC, dI)) (ci := 2) (v := .int (nI M.co)) (C := RM) (T := FM) (N := 19) hx hb hta iM hown hK hP 0 rfl rfl 2 (by decide) (hta _ m_494) (fun _ h9 => h9) rfl dM_comes_131 ?_
                        refine ni_gt (tgt := 197) hx hb dM_comes_134 (by decide) (by omega) (by omega) (fun c_5 => ?_) (fun c_5 => ?_)
                        · exfalso; omega
                        · have join153 : ∀ (ls : Array Slot), lv_has ls 9 [(7, .int (nI k3)), (6, .int (bI (tuB M r j))), (5, .int (nI (M.co + M.ln + j))), (4, .int (nI j)), (3, .int (nI (lnM M.ki r))), (2, .int (bI b)), (0, .ref (mo 0)), (1, .int (nI r))] → W p l e (headSpec wM_comes ({ frames := 1, cells := 0, slots := 0, locals := 27 })).room s m ([.ref (mo 0), .int (nI r)] : List Value).toArray below meth c H locs 0 0 (MQ below (wQ (some (.int (bI (cmM M r).1))) (dC, dI) vwCl (MW mo km ((cmM M r).2)) A) ([.ref (mo 0), .int (nI r)] : List Value).toArray s 0 0 A) (F0 m 153 ls [.int (nI (atK M.co k3))]) := by
                            intro ls hl
                            have hat : atK M.co k3 < 13 := by unfold atK; split <;> omega
                            refine lv_istore (lv' := [(8, .int (nI (atK M.co k3))), (7, .int (nI k3)), (6, .int (bI (tuB M r j))), (5, .int (nI (M.co + M.ln + j))), (4, .int (nI j)), (3, .int (nI (lnM M.ki r))), (2, .int (bI b)), (0, .ref (mo 0)), (1, .int (nI r))]) hx hb dM_comes_153 hl (by decide) rfl (fun ls hl => ?_)
                            refine lv_aload_n hx hb dM_comes_155 rfl (lv_at hl 7 rfl) ?_
                            refine va_get (D := (dC, dI)) (ci := 2) (v := .ref (mo 9)) (C := RM) (T := FM) (N := 19) hx hb hta iM hown hK hP 0 rfl rfl 16 (by decide) (hta _ m_508) (fun _ h9 => h9) rfl dM_comes_156 ?_
                            refine lv_bipush (v := nI 13) hx hb dM_comes_159 (by decide) ?_
                            refine lv_iload hx hb dM_comes_161 (lv_at hl 3 rfl) ?_
                            refine lv_imul hx hb dM_comes_163 ?_
                            refine st_i (y := nI (13 * (M.co + M.ln + j))) (pk_mul _ _) ?_
                            refine lv_iload hx hb dM_comes_164 (lv_at hl 0 rfl) ?_
                            refine lv_iadd hx hb dM_comes_166 ?_
                            refine st_i (y := nI ((13 * (M.co + M.ln + j)) + (atK M.co k3))) (nI_add _ _) ?_
                            refine lv_iload hx hb dM_comes_167 (lv_at hl 2 rfl) ?_
                            refine lb_eq (tgt := 183) hx hb dM_comes_169 (by decide) (fun h9 => ?_) (fun h9 => ?_)
                            · refine lv_aload_n hx hb dM_comes_183 rfl (lv_at hl 7 rfl) ?_
                              refine lv_iload_n hx hb dM_comes_184 rfl (lv_at hl 8 rfl) ?_
                              refine lv_iload hx hb dM_comes_185 (lv_at hl 0 rfl) ?_
                              refine rd_call (va_runV (As := [.int (nI r), .int (nI (atK M.co k3))]) (rest := [.int (nI ((13 * (M.co + M.ln + j)) + (atK M.co k3))), .ref (mo 9)]) ⟨hx, hb, hml, hown, hta⟩ (c_M_sum l dC dI mo km (mTa M t3) r (atK M.co k3) (by first | omega | assumption) (by first | omega | assumption) (by first | omega | assumption) (by first | omega | assumption)) (cwV 2 hta (gV m_607 m_609 mp_44 m_4 m_610) rfl rfl rfl (by decide +kernel) ⟨Nat.le_of_ble_eq_true rfl, Nat.le_of_ble_eq_true rfl⟩) (rd_V xT_ok trivial hK hP (ci := 2) (q0 := 0) rfl rfl) rfl rfl hl.1 rfl (lv_room (Nat.le_of_ble_eq_true rfl)) dM_comes_187 ⟨Nat.zero_le _, Nat.zero_le _⟩) ?_
                              refine W.eq (g2 := F0 m 190 ls [.long (suM (mTa M t3) r (atK M.co k3)), .int (nI ((13 * (M.co + M.ln + j)) + (atK M.co k3))), .ref (mo 9)]) rfl ?_
                              refine na_last hx hb hK hP hD hS 9 8 rfl rfl (i := ((13 * (M.co + M.ln + j)) + (atK M.co k3))) (x := suM (mTa M t3) r (atK M.co k3)) (by omega) (by decide) dM_comes_190 (fun H locs hP hD hS => ?_)
                              have hP : va_P (dC, dI) vwCl (MW mo km (mTa M (vp_updL t3 ((13 * (M.co + M.ln + j)) + (atK M.co k3)) (suM (mTa M t3) r (atK M.co k3))))) H := hP
                              have hD : va_D A (MW mo km (mTa M (vp_updL t3 ((13 * (M.co + M.ln + j)) + (atK M.co k3)) (suM (mTa M t3) r (atK M.co k3))))) := hD
                              refine lv_iinc (v := nI (k3 + 1)) (lv' := [(7, .int (nI (k3 + 1))), (8, .int (nI (atK M.co k3))), (6, .int (bI (tuB M r j))), (5, .int (nI (M.co + M.ln + j))), (4, .int (nI j)), (3, .int (nI (lnM M.ki r))), (2, .int (bI b)), (0, .ref (mo 0)), (1, .int (nI r))]) hx hb dM_comes_191 hl (k := 1) rfl (nI_add k3 1) (by decide) rfl (fun ls hl => ?_)
                              refine lv_goto (tgt := 128) hx hb dM_comes_194 (by decide) ?_
                              exact ih128 (k3 + 1) (vp_updL t3 ((13 * (M.co + M.ln + j)) + (atK M.co k3)) (suM (mTa M t3) r (atK M.co k3))) H locs ls (by omega) (by rw [← hq3, cmI, cmX]; first | (rw [if_pos h9]; done) | (rw [if_neg (by rw [h9]; decide)]; done)) hP hD hS (lv_sub hl [0, 2, 3, 4, 5, 6, 7, 8] rfl)
                            · refine lv_aload_n hx hb dM_comes_172 rfl (lv_at hl 7 rfl) ?_
                              refine lv_iload_n hx hb dM_comes_173 rfl (lv_at hl 8 rfl) ?_
                              refine lv_iload hx hb dM_comes_174 (lv_at hl 0 rfl) ?_
                              refine rd_call (va_runV (As := [.int (nI r), .int (nI (atK M.co k3))]) (rest := [.int (nI ((13 * (M.co + M.ln + j)) + (atK M.co k3))), .ref (mo 9)]) ⟨hx, hb, hml, hown, hta⟩ (c_M_sum l dC dI mo km (mTa M t3) r (atK M.co k3) (by first | omega | assumption) (by first | omega | assumption) (by first | omega | assumption) (by first | omega | assumption)) (cwV 2 hta (gV m_607 m_609 mp_44 m_4 m_610) rfl rfl rfl (by decide +kernel) ⟨Nat.le_of_ble_eq_true rfl, Nat.le_of_ble_eq_true rfl⟩) (rd_V xT_ok trivial hK hP (ci := 2) (q0 := 0) rfl rfl) rfl rfl hl.1 rfl (lv_room (Nat.le_of_ble_eq_true rfl)) dM_comes_176 ⟨Nat.zero_le _, Nat.zero_le _⟩) ?_
                              refine W.eq (g2 := F0 m 179 ls [.long (suM (mTa M t3) r (atK M.co k3)), .int (nI ((13 * (M.co + M.ln + j)) + (atK M.co k3))), .ref (mo 9)]) rfl ?_
                              refine lv_lneg hx hb dM_comes_179 ?_
                              refine lv_goto (tgt := 190) hx hb dM_comes_180 (by decide) ?_
                              refine na_last hx hb hK hP hD hS 9 8 rfl rfl (i := ((13 * (M.co + M.ln + j)) + (atK M.co k3))) (x := -(suM (mTa M t3) r (atK M.co k3))) (by omega) (by decide) dM_comes_190 (fun H locs hP hD hS => ?_)
                              have hP : va_P (dC, dI) vwCl (MW mo km (mTa M (vp_updL t3 ((13 * (M.co + M.ln + j)) + (atK M.co k3)) (-(suM (mTa M t3) r (atK M.co k3)))))) H := hP
                              have hD : va_D A (MW mo km (mTa M (vp_updL t3 ((13 * (M.co + M.ln + j)) + (atK M.co k3)) (-(suM (mTa M t3) r (atK M.co k3)))))) := hD
                              refine lv_iinc (v := nI (k3 + 1)) (lv' := [(7, .int (nI (k3 + 1))), (8, .int (nI (atK M.co k3))), (6, .int (bI (tuB M r j))), (5, .int (nI (M.co + M.ln + j))), (4, .int (nI j)), (3, .int (nI (lnM M.ki r))), (2, .int (bI b)), (0, .ref (mo 0)), (1, .int (nI r))]) hx hb dM_comes_191 hl (k := 1) rfl (nI_add k3 1) (by decide) rfl (fun ls hl => ?_)
                              refine lv_goto (tgt := 128) hx hb dM_comes_194 (by decide) ?_
                              exact ih128 (k3 + 1) (vp_updL t3 ((13 * (M.co + M.ln + j)) + (atK M.co k3)) (-(suM (mTa M t3) r (atK M.co k3)))) H locs ls (by omega) (by rw [← hq3, cmI, cmX]; first | (rw [if_pos h9]; done) | (rw [if_neg (by rw [h9]; decide)]; done)) hP hD hS (lv_sub hl [0, 2, 3, 4, 5, 6, 7, 8] rfl)
                          refine lv_iload hx hb dM_comes_137 (lv_at hl 0 rfl) ?_
                          refine lv_aload_n hx hb dM_comes_139 rfl (lv_at hl 6 rfl) ?_
                          refine va_get (D := (dC, dI)) (ci := 2) (v := .int (nI M.co)) (C := RM) (T := FM) (N := 19) hx hb hta iM hown hK hP 0 rfl rfl 2 (by decide) (hta _ m_494) (fun _ h9 => h9) rfl dM_comes_140 ?_
                          refine ni_ne (tgt := 151) hx hb dM_comes_143 (by decide) (by omega) (by omega) (fun h8 => ?_) (fun h8 => ?_)
                          · refine lv_iload hx hb dM_comes_151 (lv_at hl 0 rfl) ?_
                            refine st_i (y := nI (atK M.co k3)) (by first | (rw [atK, if_pos (by assumption)]; done) | (rw [atK, if_neg (by assumption)]; done)) ?_
                            exact join153 ls (lv_sub hl [0, 1, 2, 3, 4, 5, 6, 7] rfl)
                          · refine lv_bipush (v := nI 12) hx hb dM_comes_146 (by decide) ?_
                            refine lv_goto (tgt := 153) hx hb dM_comes_148 (by decide) ?_
                            refine st_i (y := nI (atK M.co k3)) (by first | (rw [atK, if_pos (by assumption)]; done) | (rw [atK, if_neg (by assumption)]; done)) ?_
                            exact join153 ls (lv_sub hl [0, 1, 2, 3, 4, 5, 6, 7] rfl)
                    exact loop128 (M.co + 1) 0 t H locs ls (by omega) rfl hP hD hS (lv_sub hl [0, 1, 2, 3, 4, 5, 6, 7] rfl)
                  refine lv_aload_n hx hb dM_comes_102 rfl (lv_at hl 4 rfl) ?_
                  refine va_get (D := (dC, dI)) (ci := 2) (v := .ref (mo 2)) (C := RM) (T := FM) (N := 19) hx hb hta iM hown hK hP 0 rfl rfl 5 (by decide) (hta _ m_497) (fun _ h9 => h9) rfl dM_comes_103 ?_
                  refine lv_iload_n hx hb dM_comes_106 rfl (lv_at hl 5 rfl) ?_
                  refine na_iald hx hb hK hP 2 1 rfl rfl (i := r) (by omega) (by decide) dM_comes_107 ?_
                  refine lv_iconst (v := 1) hx hb dM_comes_108 (by decide) ?_
                  refine lv_icmp_eq (tgt := 118) hx hb dM_comes_109 (by decide) (fun h6 => ?_) (fun h6 => ?_)
                  · have h6 : M.ki r = 1 := h6
                    refine lv_iconst (v := 1) hx hb dM_comes_118 (by decide) ?_
                    refine lv_goto (tgt := 123) hx hb dM_comes_119 (by decide) ?_
                    refine st_i (y := bI (tuB M r j)) (by first | (rw [tuB, decide_eq_true h6]; rfl; done) | (rw [tuB, decide_eq_false h6, decide_eq_true h7]; rfl; done) | (rw [tuB, decide_eq_false h6, decide_eq_false h7]; rfl; done)) ?_
                    exact join123 ls (lv_sub hl [0, 1, 2, 3, 4, 5] rfl)
                  · have h6 : ¬ M.ki r = 1 := h6
                    refine lv_iload hx hb dM_comes_112 (lv_at hl 1 rfl) ?_
                    refine lv_iconst (v := nI 1) hx hb dM_comes_114 (by decide) ?_
                    refine ni_ne (tgt := 122) hx hb dM_comes_115 (by decide) (by omega) (by omega) (fun h7 => ?_) (fun h7 => ?_)
                    · refine lv_iconst (v := 0) hx hb dM_comes_122 (by decide) ?_
                      refine st_i (y := bI (tuB M r j)) (by first | (rw [tuB, decide_eq_true h6]; rfl; done) | (rw [tuB, decide_eq_false h6, decide_eq_true h7]; rfl; done) | (rw [tuB, decide_eq_false h6, decide_eq_false h7]; rfl; done)) ?_
                      exact join123 ls (lv_sub hl [0, 1, 2, 3, 4, 5] rfl)
                    · refine lv_iconst (v := 1) hx hb dM_comes_118 (by decide) ?_
                      refine lv_goto (tgt := 123) hx hb dM_comes_119 (by decide) ?_
                      refine st_i (y := bI (tuB M r j)) (by first | (rw [tuB, decide_eq_true h6]; rfl; done) | (rw [tuB, decide_eq_false h6, decide_eq_true h7]; rfl; done) | (rw [tuB, decide_eq_false h6, decide_eq_false h7]; rfl; done)) ?_
                      exact join123 ls (lv_sub hl [0, 1, 2, 3, 4, 5] rfl)
            exact loop82 (lnM M.ki r) 0 M.ta s.heap [] ls (by omega) rfl hP hD hS (lv_sub hl [0, 1, 2, 3, 4] rfl)
          refine lv_aload_n hx hb dM_comes_63 rfl (lv_at hl 2 rfl) ?_
          refine va_get (D := (dC, dI)) (ci := 2) (v := .ref (mo 2)) (C := RM) (T := FM) (N := 19) hx hb hta iM hown hK hP 0 rfl rfl 5 (by decide) (hta _ m_497) (fun _ h9 => h9) rfl dM_comes_64 ?_
          refine lv_iload_n hx hb dM_comes_67 rfl (lv_at hl 3 rfl) ?_
          refine na_iald hx hb hK hP 2 1 rfl rfl (i := r) (by omega) (by decide) dM_comes_68 ?_
          refine lv_iconst (v := 2) hx hb dM_comes_69 (by decide) ?_
          refine lv_icmp_ne (tgt := 77) hx hb dM_comes_70 (by decide) (fun h5 => ?_) (fun h5 => ?_)
          · have eN : lnM M.ki r = 1 := if_neg h5
            refine lv_iconst (v := nI 1) hx hb dM_comes_77 (by decide) ?_
            refine st_i (y := nI (lnM M.ki r)) (by rw [eN]) ?_
            exact join78 ls (lv_sub hl [0, 1, 2, 3] rfl)
          · have eN : lnM M.ki r = 2 := if_pos h5
            refine lv_iconst (v := nI 2) hx hb dM_comes_73 (by decide) ?_
            refine lv_goto (tgt := 78) hx hb dM_comes_74 (by decide) ?_
            refine st_i (y := nI (lnM M.ki r)) (by rw [eN]) ?_
            exact join78 ls (lv_sub hl [0, 1, 2, 3] rfl)
        · have e9 : cmM M r = (false, M) := if_neg (by rw [← hq, show cmF M r i 0 b = false from hb9]; decide)
          refine lv_iconst (v := 0) hx hb dM_comes_61 (by decide) ?_
          exact W.zret (v := 0) hx hb hr (rfl) (fun t ht hW => ⟨congrArg (fun z => Outcome.returned (some (.int z))) (by rw [e9]; rfl), by rw [ht]; exact (by rw [e9]; exact hP), hS.F ht⟩) hS.2.2 dM_comes_62
      · exfalso; omega
    | succ n ih =>
      intro i b ls hn hq hl
      refine lv_iload_n hx hb dM_comes_4 rfl (lv_at hl 0 rfl) ?_
      refine lv_aload_n hx hb dM_comes_5 rfl (lv_at hl 2 rfl) ?_
      refine va_get (D := (dC, dI)) (ci := 2) (v := .int (nI M.co)) (C := RM) (T := FM) (N := 19) hx hb hta iM hown hK hP 0 rfl rfl 2 (by decide) (hta _ m_494) (fun _ h9 => h9) rfl dM_comes_6 ?_
      refine ni_gt (tgt := 57) hx hb dM_comes_9 (by decide) (by omega) (by omega) (fun c_6 => ?_) (fun c_6 => ?_)
      · exfalso; omega
      · have join26 : ∀ (ls : Array Slot), lv_has ls 9 [(3, .int (nI i)), (2, .int (bI b)), (0, .ref (mo 0)), (1, .int (nI r))] → W p l e (headSpec wM_comes ({ frames := 1, cells := 0, slots := 0, locals := 27 })).room s m ([.ref (mo 0), .int (nI r)] : List Value).toArray below meth c s.heap [] 0 0 (MQ below (wQ (some (.int (bI (cmM M r).1))) (dC, dI) vwCl (MW mo km ((cmM M r).2)) A) ([.ref (mo 0), .int (nI r)] : List Value).toArray s 0 0 A) (F0 m 26 ls [.int (nI (atK M.co i))]) := by
          intro ls hl
          have hat : atK M.co i < 13 := by unfold atK; split <;> omega
          refine lv_istore (lv' := [(4, .int (nI (atK M.co i))), (3, .int (nI i)), (2, .int (bI b)), (0, .ref (mo 0)), (1, .int (nI r))]) hx hb dM_comes_26 hl (by decide) rfl (fun ls hl => ?_)
          refine lv_iload_n hx hb dM_comes_28 rfl (lv_at hl 2 rfl) ?_
          refine lb_eq (tgt := 49) hx hb dM_comes_29 (by decide) (fun h2 => ?_) (fun h2 => ?_)
          · refine lv_iconst (v := 0) hx hb dM_comes_49 (by decide) ?_
            refine lv_istore_n (lv' := [(2, .int 0), (4, .int (nI (atK M.co i))), (3, .int (nI i)), (0, .ref (mo 0)), (1, .int (nI r))]) hx hb dM_comes_50 rfl hl (by decide) rfl (fun ls hl => ?_)
            refine lv_iinc (v := nI (i + 1)) (lv' := [(3, .int (nI (i + 1))), (2, .int 0), (4, .int (nI (atK M.co i))), (0, .ref (mo 0)), (1, .int (nI r))]) hx hb dM_comes_51 hl (k := 2) rfl (nI_add i 1) (by decide) rfl (fun ls hl => ?_)
            refine lv_goto (tgt := 4) hx hb dM_comes_54 (by decide) ?_
            exact ih (i + 1) false ls (by omega) (by rw [← hq, cmF]; first | (rw [h2]; rfl; done) | (rw [h2, h3]; rfl; done)) (lv_sub hl [0, 1, 3, 4] rfl)
          · refine lv_aload_n hx hb dM_comes_32 rfl (lv_at hl 3 rfl) ?_
            refine lv_iload_n hx hb dM_comes_33 rfl (lv_at hl 4 rfl) ?_
            refine lv_iload hx hb dM_comes_34 (lv_at hl 0 rfl) ?_
            refine rd_call (va_runV (As := [.int (nI r), .int (nI (atK M.co i))]) (rest := []) ⟨hx, hb, hml, hown, hta⟩ (c_M_sum l dC dI mo km M r (atK M.co i) (by first | omega | assumption) (by first | omega | assumption) (by first | omega | assumption) (by first | omega | assumption)) (cwV 2 hta (gV m_607 m_609 mp_44 m_4 m_610) rfl rfl rfl (by decide +kernel) ⟨Nat.le_of_ble_eq_true rfl, Nat.le_of_ble_eq_true rfl⟩) (rd_V xT_ok trivial hK hP (ci := 2) (q0 := 0) rfl rfl) rfl rfl hl.1 rfl (lv_room (Nat.le_of_ble_eq_true rfl)) dM_comes_36 ⟨Nat.zero_le _, Nat.zero_le _⟩) ?_
            refine W.eq (g2 := F0 m 39 ls [.long (suM M r (atK M.co i))]) rfl ?_
            refine rd_call (va_runS (As := [.long (suM M r (atK M.co i))]) (rest := []) ⟨hx, hb, hml, hown, hta⟩ (c_M_isGreat l dC dI mo km (suM M r (atK M.co i))) (cwS 1 hta (gS m_594 m_595 m_4 m_596) rfl rfl rfl (by decide +kernel) ⟨Nat.le_of_ble_eq_true rfl, Nat.le_of_ble_eq_true rfl⟩) (rd_S xT_ok trivial (hK.sub [] rfl) va_P_nil) rfl rfl hl.1 rfl (lv_room (Nat.le_of_ble_eq_true rfl)) dM_comes_39 ⟨Nat.zero_le _, Nat.zero_le _⟩) ?_
            refine W.eq (g2 := F0 m 42 ls [.int (bI (isGrB (suM M r (atK M.co i))))]) rfl ?_
            refine lb_ne (tgt := 49) hx hb dM_comes_42 (by decide) (fun h3 => ?_) (fun h3 => ?_)
            · refine lv_iconst (v := 0) hx hb dM_comes_49 (by decide) ?_
              refine lv_istore_n (lv' := [(2, .int 0), (4, .int (nI (atK M.co i))), (3, .int (nI i)), (0, .ref (mo 0)), (1, .int (nI r))]) hx hb dM_comes_50 rfl hl (by decide) rfl (fun ls hl => ?_)
              refine lv_iinc (v := nI (i + 1)) (lv' := [(3, .int (nI (i + 1))), (2, .int 0), (4, .int (nI (atK M.co i))), (0, .ref (mo 0)), (1, .int (nI r))]) hx hb dM_comes_51 hl (k := 2) rfl (nI_add i 1) (by decide) rfl (fun ls hl => ?_)
              refine lv_goto (tgt := 4) hx hb dM_comes_54 (by decide) ?_
              exact ih (i + 1) false ls (by omega) (by rw [← hq, cmF]; first | (rw [h2]; rfl; done) | (rw [h2, h3]; rfl; done)) (lv_sub hl [0, 1, 3, 4] rfl)
            · refine lv_iconst (v := 1) hx hb dM_comes_45 (by decide) ?_
              refine lv_goto (tgt := 50) hx hb dM_comes_46 (by decide) ?_
              refine lv_istore_n (lv' := [(2, .int 1), (4, .int (nI (atK M.co i))), (3, .int (nI i)), (0, .ref (mo 0)), (1, .int (nI r))]) hx hb dM_comes_50 rfl hl (by decide) rfl (fun ls hl => ?_)
              refine lv_iinc (v := nI (i + 1)) (lv' := [(3, .int (nI (i + 1))), (2, .int 1), (4, .int (nI (atK M.co i))), (0, .ref (mo 0)), (1, .int (nI r))]) hx hb dM_comes_51 hl (k := 2) rfl (nI_add i 1) (by decide) rfl (fun ls hl => ?_)
              refine lv_goto (tgt := 4) hx hb dM_comes_54 (by decide) ?_
              exact ih (i + 1) true ls (by omega) (by rw [← hq, cmF]; first | (rw [h2]; rfl; done) | (rw [h2, h3]; rfl; done)) (lv_sub hl [0, 1, 3, 4] rfl)
        refine lv_iload_n hx hb dM_comes_12 rfl (lv_at hl 0 rfl) ?_
        refine lv_aload_n hx hb dM_comes_13 rfl (lv_at hl 2 rfl) ?_
        refine va_get (D := (dC, dI)) (ci := 2) (v := .int (nI M.co)) (C := RM) (T := FM) (N := 19) hx hb hta iM hown hK hP 0 rfl rfl 2 (by decide) (hta _ m_494) (fun _ h9 => h9) rfl dM_comes_14 ?_
        refine ni_ne (tgt := 25) hx hb dM_comes_17 (by decide) (by omega) (by omega) (fun h1 => ?_) (fun h1 => ?_)
        · refine lv_iload_n hx hb dM_comes_25 rfl (lv_at hl 0 rfl) ?_
          refine st_i (y := nI (atK M.co i)) (by first | (rw [atK, if_pos (by assumption)]; done) | (rw [atK, if_neg (by assumption)]; done)) ?_
          exact join26 ls (lv_sub hl [0, 1, 2, 3] rfl)
        · refine lv_bipush (v := nI 12) hx hb dM_comes_20 (by decide) ?_
          refine lv_goto (tgt := 26) hx hb dM_comes_22 (by decide) ?_
          refine st_i (y := nI (atK M.co i)) (by first | (rw [atK, if_pos (by assumption)]; done) | (rw [atK, if_neg (by assumption)]; done)) ?_
          exact join26 ls (lv_sub hl [0, 1, 2, 3] rfl)
  exact loop4 (M.co + 1) 0 true ls (by omega) rfl (lv_sub hl [0, 1, 2, 3] rfl)
