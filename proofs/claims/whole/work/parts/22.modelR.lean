set_option maxHeartbeats 4000000 in
set_option maxRecDepth 100000 in
theorem c_M_isIn (l : Launch) (dC : Nat → ClassId) (dI : Nat → Nat → Nat) (mo : Nat → Nat) (km : Nat → ClassId) (v x y : Int64)  : Met l yM_isIn wM_isIn ({ frames := 0, cells := 0, slots := 0, locals := 0 }) (rPc [.long v, .long x, .long y] (dC, dI) vwCl ([]) ([]) xT) (rQ (some (.int (bI (isInB v x y))))) 0 0 (fun _ => False) := by
  refine Met.ofW (cc := bM_isIn) (maxL := 6) (ret := (some .boolean)) (by decide) rfl ?_
  intro p e s m args below meth c s₁ B hml hv
  obtain ⟨rfl, hP, hK, hX⟩ := hv
  have hx := B.exec
  have hb := B.bytes
  have hr := B.returns
  have hts := atoms_spec (ws := wM_isIn) B.pre
  have hta : ∀ w ∈ AW, w.before _ s = true := fun w h => hts w (List.mem_cons_of_mem _ h)
  have hown : s.vm.findClass RM = some m.cls := findClass_of_methodNamed B.named
  have hlocks := B.notSynchronized
  have hl := lv_entry ([.long v, .long x, .long y]) (n := 6) (Nat.le_of_ble_eq_true rfl)
  rw [lg_entry_eq]
  generalize (lg_sl ([.long v, .long x, .long y]) ++ List.replicate (6 - (lg_sl ([.long v, .long x, .long y])).length) Slot.unset).toArray = ls at hl ⊢
  have hl : lv_has ls 6 [(0, .long v), (2, .long x), (4, .long y)] := hl
  refine lv_lload_n hx hb dM_isIn_0 rfl (lv_at hl 0 rfl) ?_
  refine lv_lload_n hx hb dM_isIn_1 rfl (lv_at hl 1 rfl) ?_
  refine ll_lt (tgt := 17) hx hb dM_isIn_2 dM_isIn_3 (by decide) (fun h1 => ?_) (fun h1 => ?_)
  · refine lv_iconst (v := 0) hx hb dM_isIn_17 (by decide) ?_
    exact W.zret (v := 0) hx hb hr (rfl) (fun t ht hW => ⟨congrArg (fun z => Outcome.returned (some (.int z))) (by first | (rw [isInB, decide_eq_true h1]; rfl; done) | (rw [isInB, decide_eq_false h1, decide_eq_true h2]; rfl; done) | (rw [isInB, decide_eq_false h1, decide_eq_false h2]; rfl)), ht⟩) (fun q h => nomatch h) dM_isIn_18
  · refine lv_lload_n hx hb dM_isIn_6 rfl (lv_at hl 0 rfl) ?_
    refine lv_lload hx hb dM_isIn_7 (lv_at hl 2 rfl) ?_
    refine ll_gt (tgt := 17) hx hb dM_isIn_9 dM_isIn_10 (by decide) (fun h2 => ?_) (fun h2 => ?_)
    · refine lv_iconst (v := 0) hx hb dM_isIn_17 (by decide) ?_
      exact W.zret (v := 0) hx hb hr (rfl) (fun t ht hW => ⟨congrArg (fun z => Outcome.returned (some (.int z))) (by first | (rw [isInB, decide_eq_true h1]; rfl; done) | (rw [isInB, decide_eq_false h1, decide_eq_true h2]; rfl; done) | (rw [isInB, decide_eq_false h1, decide_eq_false h2]; rfl)), ht⟩) (fun q h => nomatch h) dM_isIn_18
    · refine lv_iconst (v := 1) hx hb dM_isIn_13 (by decide) ?_
      refine lv_goto (tgt := 18) hx hb dM_isIn_14 (by decide) ?_
      exact W.zret (v := 1) hx hb hr (rfl) (fun t ht hW => ⟨congrArg (fun z => Outcome.returned (some (.int z))) (by first | (rw [isInB, decide_eq_true h1]; rfl; done) | (rw [isInB, decide_eq_false h1, decide_eq_true h2]; rfl; done) | (rw [isInB, decide_eq_false h1, decide_eq_false h2]; rfl)), ht⟩) (fun q h => nomatch h) dM_isIn_18

set_option maxHeartbeats 4000000 in
set_option maxRecDepth 100000 in
theorem c_M_isGreat (l : Launch) (dC : Nat → ClassId) (dI : Nat → Nat → Nat) (mo : Nat → Nat) (km : Nat → ClassId) (v : Int64)  : Met l yM_isGreat wM_isGreat ({ frames := 0, cells := 0, slots := 0, locals := 0 }) (rPc [.long v] (dC, dI) vwCl ([]) ([]) xT) (rQ (some (.int (bI (isGrB v))))) 0 0 (fun _ => False) := by
  refine Met.ofW (cc := bM_isGreat) (maxL := 2) (ret := (some .boolean)) (by decide) rfl ?_
  intro p e s m args below meth c s₁ B hml hv
  obtain ⟨rfl, hP, hK, hX⟩ := hv
  have hx := B.exec
  have hb := B.bytes
  have hr := B.returns
  have hts := atoms_spec (ws := wM_isGreat) B.pre
  have hta : ∀ w ∈ AW, w.before _ s = true := fun w h => hts w (List.mem_cons_of_mem _ h)
  have hown : s.vm.findClass RM = some m.cls := findClass_of_methodNamed B.named
  have hlocks := B.notSynchronized
  have hl := lv_entry ([.long v]) (n := 2) (Nat.le_of_ble_eq_true rfl)
  rw [lg_entry_eq]
  generalize (lg_sl ([.long v]) ++ List.replicate (2 - (lg_sl ([.long v])).length) Slot.unset).toArray = ls at hl ⊢
  have hl : lv_has ls 2 [(0, .long v)] := hl
  refine lv_lload_n hx hb dM_isGreat_0 rfl (lv_at hl 0 rfl) ?_
  refine lv_ldc2 (v := 1000000000) hx hb hown (hta _ m_597) dM_isGreat_1 ?_
  refine ll_gt (tgt := 16) hx hb dM_isGreat_4 dM_isGreat_5 (by decide) (fun h1 => ?_) (fun h1 => ?_)
  · refine lv_iconst (v := 1) hx hb dM_isGreat_16 (by decide) ?_
    refine lv_goto (tgt := 21) hx hb dM_isGreat_17 (by decide) ?_
    exact W.zret (v := 1) hx hb hr (rfl) (fun t ht hW => ⟨congrArg (fun z => Outcome.returned (some (.int z))) (by first | (rw [isGrB, decide_eq_true h1]; rfl; done) | (rw [isGrB, decide_eq_false h1, decide_eq_true h2]; rfl; done) | (rw [isGrB, decide_eq_false h1, decide_eq_false h2]; rfl)), ht⟩) (fun q h => nomatch h) dM_isGreat_21
  · refine lv_lload_n hx hb dM_isGreat_8 rfl (lv_at hl 0 rfl) ?_
    refine lv_ldc2 (v := (-1000000000)) hx hb hown (hta _ m_598) dM_isGreat_9 ?_
    refine ll_ge (tgt := 20) hx hb dM_isGreat_12 dM_isGreat_13 (by decide) (fun h2 => ?_) (fun h2 => ?_)
    · refine lv_iconst (v := 0) hx hb dM_isGreat_20 (by decide) ?_
      exact W.zret (v := 0) hx hb hr (rfl) (fun t ht hW => ⟨congrArg (fun z => Outcome.returned (some (.int z))) (by first | (rw [isGrB, decide_eq_true h1]; rfl; done) | (rw [isGrB, decide_eq_false h1, decide_eq_true h2]; rfl; done) | (rw [isGrB, decide_eq_false h1, decide_eq_false h2]; rfl)), ht⟩) (fun q h => nomatch h) dM_isGreat_21
    · refine lv_iconst (v := 1) hx hb dM_isGreat_16 (by decide) ?_
      refine lv_goto (tgt := 21) hx hb dM_isGreat_17 (by decide) ?_
      exact W.zret (v := 1) hx hb hr (rfl) (fun t ht hW => ⟨congrArg (fun z => Outcome.returned (some (.int z))) (by first | (rw [isGrB, decide_eq_true h1]; rfl; done) | (rw [isGrB, decide_eq_false h1, decide_eq_true h2]; rfl; done) | (rw [isGrB, decide_eq_false h1, decide_eq_false h2]; rfl)), ht⟩) (fun q h => nomatch h) dM_isGreat_21

set_option maxHeartbeats 4000000 in
set_option maxRecDepth 100000 in
theorem c_M_thrown (l : Launch) (dC : Nat → ClassId) (dI : Nat → Nat → Nat) (mo : Nat → Nat) (km : Nat → ClassId) (M : MS)   : Met l yM_thrown wM_thrown ({ frames := 0, cells := 0, slots := 0, locals := 0 }) (rPc [.ref (mo 0)] (dC, dI) vwCl (MW mo km M) (MK km) xT) (rQ (some (.int (nI M.thr)))) 0 0 (fun _ => False) := by
  refine Met.ofW (cc := bM_thrown) (maxL := 1) (ret := (some .int)) (by decide) rfl ?_
  intro p e s m args below meth c s₁ B hml hv
  obtain ⟨rfl, hP, hK, hX⟩ := hv
  have hx := B.exec
  have hb := B.bytes
  have hr := B.returns
  have hts := atoms_spec (ws := wM_thrown) B.pre
  have hta : ∀ w ∈ AW, w.before _ s = true := fun w h => hts w (List.mem_cons_of_mem _ h)
  have hown : s.vm.findClass RM = some m.cls := findClass_of_methodNamed B.named
  have hlocks := B.notSynchronized
  have hl := lv_entry ([.ref (mo 0)]) (n := 1) (Nat.le_of_ble_eq_true rfl)
  rw [lg_entry_eq]
  generalize (lg_sl ([.ref (mo 0)]) ++ List.replicate (1 - (lg_sl ([.ref (mo 0)])).length) Slot.unset).toArray = ls at hl ⊢
  have hl : lv_has ls 1 [(0, .ref (mo 0))] := hl
  refine lv_aload_n hx hb dM_thrown_0 rfl (lv_at hl 0 rfl) ?_
  refine va_get (D := (dC, dI)) (ci := 2) (v := .int (nI M.thr)) (C := RM) (T := FM) (N := 19) hx hb hta iM hown hK hP 0 rfl rfl 0 (by decide) (hta _ m_492) (fun _ h9 => h9) rfl dM_thrown_1 ?_
  exact W.iret (v := nI M.thr) hx hb hr (fun t ht hW => ⟨rfl, ht⟩) (fun q h => nomatch h) dM_thrown_4

set_option maxHeartbeats 4000000 in
set_option maxRecDepth 100000 in
theorem c_M_moved (l : Launch) (dC : Nat → ClassId) (dI : Nat → Nat → Nat) (mo : Nat → Nat) (km : Nat → ClassId) (M : MS) (v q : Nat) (b : Int64) (hpl : ∀ v k, M.pl v = some k → k < 12) (hv : v < 37) (hq9 : q < 37) : Met l yM_moved wM_moved ({ frames := 0, cells := 0, slots := 0, locals := 0 }) (rPc [.ref (mo 0), .int (nI v), .int (nI q), .long b] (dC, dI) vwCl (MW mo km M) (MK km) xT) (rQ (some (.long (mvR M v q b)))) 0 0 (fun _ => False) := by
  refine Met.ofW (cc := bM_moved) (maxL := 5) (ret := (some .long)) (by decide) rfl ?_
  intro p e s m args below meth c s₁ B hml hv
  obtain ⟨rfl, hP, hK, hX⟩ := hv
  have hx := B.exec
  have hb := B.bytes
  have hr := B.returns
  have hts := atoms_spec (ws := wM_moved) B.pre
  have hta : ∀ w ∈ AW, w.before _ s = true := fun w h => hts w (List.mem_cons_of_mem _ h)
  have hown : s.vm.findClass RM = some m.cls := findClass_of_methodNamed B.named
  have hlocks := B.notSynchronized
  have hl := lv_entry ([.ref (mo 0), .int (nI v), .int (nI q), .long b]) (n := 5) (Nat.le_of_ble_eq_true rfl)
  rw [lg_entry_eq]
  generalize (lg_sl ([.ref (mo 0), .int (nI v), .int (nI q), .long b]) ++ List.replicate (5 - (lg_sl ([.ref (mo 0), .int (nI v), .int (nI q), .long b])).length) Slot.unset).toArray = ls at hl ⊢
  have hl : lv_has ls 5 [(0, .ref (mo 0)), (1, .int (nI v)), (2, .int (nI q)), (3, .long b)] := hl
  refine lv_aload_n hx hb dM_moved_0 rfl (lv_at hl 0 rfl) ?_
  refine va_get (D := (dC, dI)) (ci := 2) (v := .ref (mo 7)) (C := RM) (T := FM) (N := 19) hx hb hta iM hown hK hP 0 rfl rfl 14 (by decide) (hta _ m_506) (fun _ h9 => h9) rfl dM_moved_1 ?_
  refine lv_iload_n hx hb dM_moved_4 rfl (lv_at hl 2 rfl) ?_
  refine na_iald hx hb hK hP 7 6 rfl rfl (i := q) (by omega) (by decide) dM_moved_5 ?_
  refine W.eq (g2 := F0 m 6 ls [.int (enc (M.pl q))]) rfl ?_
  refine lv_iconst (v := (-1)) hx hb dM_moved_6 (by decide) ?_
  refine en_ne (o := (M.pl q)) (tgt := 29) hx hb dM_moved_7 (by decide) (fun j h => by have := hpl _ _ h; omega) (fun k9 ho => ?_) (fun ho => ?_)
  · have hj9 := hpl _ _ ho
    refine lv_aload_n hx hb dM_moved_29 rfl (lv_at hl 0 rfl) ?_
    refine va_get (D := (dC, dI)) (ci := 2) (v := .ref (mo 9)) (C := RM) (T := FM) (N := 19) hx hb hta iM hown hK hP 0 rfl rfl 16 (by decide) (hta _ m_508) (fun _ h9 => h9) rfl dM_moved_30 ?_
    refine lv_bipush (v := nI 13) hx hb dM_moved_33 (by decide) ?_
    refine lv_iload_n hx hb dM_moved_35 rfl (lv_at hl 1 rfl) ?_
    refine lv_imul hx hb dM_moved_36 ?_
    refine st_i (y := nI (13 * v)) (pk_mul _ _) ?_
    refine lv_aload_n hx hb dM_moved_37 rfl (lv_at hl 0 rfl) ?_
    refine va_get (D := (dC, dI)) (ci := 2) (v := .ref (mo 7)) (C := RM) (T := FM) (N := 19) hx hb hta iM hown hK hP 0 rfl rfl 14 (by decide) (hta _ m_506) (fun _ h9 => h9) rfl dM_moved_38 ?_
    refine lv_iload_n hx hb dM_moved_41 rfl (lv_at hl 2 rfl) ?_
    refine na_iald hx hb hK hP 7 6 rfl rfl (i := q) (by omega) (by decide) dM_moved_42 ?_
    refine W.eq (g2 := F0 m 43 ls [.int (enc (M.pl q)), .int (nI (13 * v)), .ref (mo 9)]) rfl ?_
    refine st_i (y := nI k9) (by rw [ho]; rfl) ?_
    refine lv_iadd hx hb dM_moved_43 ?_
    refine st_i (y := nI ((13 * v) + k9)) (nI_add _ _) ?_
    refine na_lald hx hb hK hP 9 8 rfl rfl (i := ((13 * v) + k9)) (by omega) (by decide) dM_moved_44 ?_
    refine lv_lload_n hx hb dM_moved_45 rfl (lv_at hl 3 rfl) ?_
    refine lv_lmul hx hb dM_moved_46 ?_
    exact W.lret (v := (M.ta ((13 * v) + k9)) * b) hx hb hr (fun t ht hW => ⟨congrArg (fun z => Outcome.returned (some (.long z))) (by first | (simp [mvR, ho, h1]; done) | simp [mvR, ho]), ht⟩) (fun q h => nomatch h) dM_moved_47
  · refine lv_iload_n hx hb dM_moved_10 rfl (lv_at hl 1 rfl) ?_
    refine lv_iload_n hx hb dM_moved_11 rfl (lv_at hl 2 rfl) ?_
    refine ni_ne (tgt := 25) hx hb dM_moved_12 (by decide) (by omega) (by omega) (fun h1 => ?_) (fun h1 => ?_)
    · refine lv_lconst (v := 0) hx hb dM_moved_25 (by decide) ?_
      refine lv_goto (tgt := 47) hx hb dM_moved_26 (by decide) ?_
      exact W.lret (v := 0) hx hb hr (fun t ht hW => ⟨congrArg (fun z => Outcome.returned (some (.long z))) (by first | (simp [mvR, ho, h1]; done) | simp [mvR, ho]), ht⟩) (fun q h => nomatch h) dM_moved_47
    · refine lv_aload_n hx hb dM_moved_15 rfl (lv_at hl 0 rfl) ?_
      refine va_get (D := (dC, dI)) (ci := 2) (v := .long M.dn) (C := RM) (T := FM) (N := 19) hx hb hta iM hown hK hP 0 rfl rfl 13 (by decide) (hta _ m_505) (fun _ h9 => h9) rfl dM_moved_16 ?_
      refine lv_lneg hx hb dM_moved_19 ?_
      refine lv_lload_n hx hb dM_moved_20 rfl (lv_at hl 3 rfl) ?_
      refine lv_lmul hx hb dM_moved_21 ?_
      refine lv_goto (tgt := 47) hx hb dM_moved_22 (by decide) ?_
      exact W.lret (v := (-M.dn) * b) hx hb hr (fun t ht hW => ⟨congrArg (fun z => Outcome.returned (some (.long z))) (by first | (simp [mvR, ho, h1]; done) | simp [mvR, ho]), ht⟩) (fun q h => nomatch h) dM_moved_47

set_option maxHeartbeats 4000000 in
set_option maxRecDepth 100000 in
theorem c_M_isInside (l : Launch) (dC : Nat → ClassId) (dI : Nat → Nat → Nat) (mo : Nat → Nat) (km : Nat → ClassId) (M : MS) (v : Nat) (hv : v < 37) (hcl : M.co + M.ln ≤ 36) (hpl : ∀ v k, M.pl v = some k → k < 12) : Met l yM_isInside wM_isInside ({ frames := 0, cells := 0, slots := 0, locals := 0 }) (rPc [.ref (mo 0), .int (nI v)] (dC, dI) vwCl (MW mo km M) (MK km) xT) (rQ (some (.int (bI (inB M v))))) 0 0 (fun _ => False) := by
  refine Met.ofW (cc := bM_isInside) (maxL := 2) (ret := (some .boolean)) (by decide) rfl ?_
  intro p e s m args below meth c s₁ B hml hv
  obtain ⟨rfl, hP, hK, hX⟩ := hv
  have hx := B.exec
  have hb := B.bytes
  have hr := B.returns
  have hts := atoms_spec (ws := wM_isInside) B.pre
  have hta : ∀ w ∈ AW, w.before _ s = true := fun w h => hts w (List.mem_cons_of_mem _ h)
  have hown : s.vm.findClass RM = some m.cls := findClass_of_methodNamed B.named
  have hlocks := B.notSynchronized
  have hl := lv_entry ([.ref (mo 0), .int (nI v)]) (n := 2) (Nat.le_of_ble_eq_true rfl)
  rw [lg_entry_eq]
  generalize (lg_sl ([.ref (mo 0), .int (nI v)]) ++ List.replicate (2 - (lg_sl ([.ref (mo 0), .int (nI v)])).length) Slot.unset).toArray = ls at hl ⊢
  have hl : lv_has ls 2 [(0, .ref (mo 0)), (1, .int (nI v))] := hl
  refine lv_iload_n hx hb dM_isInside_0 rfl (lv_at hl 1 rfl) ?_
  refine lv_bipush (v := nI 36) hx hb dM_isInside_1 (by decide) ?_
  refine ni_eq (tgt := 29) hx hb dM_isInside_3 (by decide) (by omega) (by omega) (fun h1 => ?_) (fun h1 => ?_)
  · refine lv_iconst (v := 1) hx hb dM_isInside_29 (by decide) ?_
    refine lv_goto (tgt := 34) hx hb dM_isInside_30 (by decide) ?_
    exact W.zret (v := 1) hx hb hr (rfl) (fun t ht hW => ⟨congrArg (fun z => Outcome.returned (some (.int z))) (by first | (rw [inB, decide_eq_true h1]; rfl; done) | (rw [inB, decide_eq_false h1, decide_eq_false (Nat.not_lt.mpr h2)]; rfl; done) | (rw [inB, decide_eq_false h1, decide_eq_true h2, ho]; rfl)), ht⟩) (fun q h => nomatch h) dM_isInside_34
  · refine lv_iload_n hx hb dM_isInside_6 rfl (lv_at hl 1 rfl) ?_
    refine lv_aload_n hx hb dM_isInside_7 rfl (lv_at hl 0 rfl) ?_
    refine va_get (D := (dC, dI)) (ci := 2) (v := .int (nI M.co)) (C := RM) (T := FM) (N := 19) hx hb hta iM hown hK hP 0 rfl rfl 2 (by decide) (hta _ m_494) (fun _ h9 => h9) rfl dM_isInside_8 ?_
    refine lv_aload_n hx hb dM_isInside_11 rfl (lv_at hl 0 rfl) ?_
    refine va_get (D := (dC, dI)) (ci := 2) (v := .int (nI M.ln)) (C := RM) (T := FM) (N := 19) hx hb hta iM hown hK hP 0 rfl rfl 10 (by decide) (hta _ m_502) (fun _ h9 => h9) rfl dM_isInside_12 ?_
    refine lv_iadd hx hb dM_isInside_15 ?_
    refine st_i (y := nI (M.co + M.ln)) (nI_add _ _) ?_
    refine ni_ge (tgt := 33) hx hb dM_isInside_16 (by decide) (by omega) (by omega) (fun h2 => ?_) (fun h2 => ?_)
    · refine lv_iconst (v := 0) hx hb dM_isInside_33 (by decide) ?_
      exact W.zret (v := 0) hx hb hr (rfl) (fun t ht hW => ⟨congrArg (fun z => Outcome.returned (some (.int z))) (by first | (rw [inB, decide_eq_true h1]; rfl; done) | (rw [inB, decide_eq_false h1, decide_eq_false (Nat.not_lt.mpr h2)]; rfl; done) | (rw [inB, decide_eq_false h1, decide_eq_true h2, ho]; rfl)), ht⟩) (fun q h => nomatch h) dM_isInside_34
    · refine lv_aload_n hx hb dM_isInside_19 rfl (lv_at hl 0 rfl) ?_
      refine va_get (D := (dC, dI)) (ci := 2) (v := .ref (mo 7)) (C := RM) (T := FM) (N := 19) hx hb hta iM hown hK hP 0 rfl rfl 14 (by decide) (hta _ m_506) (fun _ h9 => h9) rfl dM_isInside_20 ?_
      refine lv_iload_n hx hb dM_isInside_23 rfl (lv_at hl 1 rfl) ?_
      refine na_iald hx hb hK hP 7 6 rfl rfl (i := v) (by omega) (by decide) dM_isInside_24 ?_
      refine W.eq (g2 := F0 m 25 ls [.int (enc (M.pl v))]) rfl ?_
      refine lv_iconst (v := (-1)) hx hb dM_isInside_25 (by decide) ?_
      refine en_ne (o := (M.pl v)) (tgt := 33) hx hb dM_isInside_26 (by decide) (fun j h => by have := hpl _ _ h; omega) (fun j_1 ho => ?_) (fun ho => ?_)
      · have hj9 := hpl _ _ ho
        refine lv_iconst (v := 0) hx hb dM_isInside_33 (by decide) ?_
        exact W.zret (v := 0) hx hb hr (rfl) (fun t ht hW => ⟨congrArg (fun z => Outcome.returned (some (.int z))) (by first | (rw [inB, decide_eq_true h1]; rfl; done) | (rw [inB, decide_eq_false h1, decide_eq_false (Nat.not_lt.mpr h2)]; rfl; done) | (rw [inB, decide_eq_false h1, decide_eq_true h2, ho]; rfl)), ht⟩) (fun q h => nomatch h) dM_isInside_34
      · refine lv_iconst (v := 1) hx hb dM_isInside_29 (by decide) ?_
        refine lv_goto (tgt := 34) hx hb dM_isInside_30 (by decide) ?_
        exact W.zret (v := 1) hx hb hr (rfl) (fun t ht hW => ⟨congrArg (fun z => Outcome.returned (some (.int z))) (by first | (rw [inB, decide_eq_true h1]; rfl; done) | (rw [inB, decide_eq_false h1, decide_eq_false (Nat.not_lt.mpr h2)]; rfl; done) | (rw [inB, decide_eq_false h1, decide_eq_true h2, ho]; rfl)), ht⟩) (fun q h => nomatch h) dM_isInside_34

set_option maxHeartbeats 4000000 in
set_option maxRecDepth 100000 in
theorem c_M_sum (l : Launch) (dC : Nat → ClassId) (dI : Nat → Nat → Nat) (mo : Nat → Nat) (km : Nat → ClassId) (M : MS) (r q : Nat) (hpl : ∀ v k, M.pl v = some k → k < 12) (hco : M.co ≤ 12) (hr9 : r < 12) (hq9 : q < 13) : Met l yM_sum wM_sum ({ frames := 0, cells := 0, slots := 0, locals := 0 }) (rPc [.ref (mo 0), .int (nI r), .int (nI q)] (dC, dI) vwCl (MW mo km M) (MK km) xT) (rQ (some (.long (suM M r q)))) 0 0 (fun _ => False) := by
  refine Met.ofW (cc := bM_sum) (maxL := 8) (ret := (some .long)) (by decide) rfl ?_
  intro p e s m args below meth c s₁ B hml hv
  obtain ⟨rfl, hP, hK, hX⟩ := hv
  have hx := B.exec
  have hb := B.bytes
  have hr := B.returns
  have hts := atoms_spec (ws := wM_sum) B.pre
  have hta : ∀ w ∈ AW, w.before _ s = true := fun w h => hts w (List.mem_cons_of_mem _ h)
  have hown : s.vm.findClass RM = some m.cls := findClass_of_methodNamed B.named
  have hlocks := B.notSynchronized
  have hl := lv_entry ([.ref (mo 0), .int (nI r), .int (nI q)]) (n := 8) (Nat.le_of_ble_eq_true rfl)
  rw [lg_entry_eq]
  generalize (lg_sl ([.ref (mo 0), .int (nI r), .int (nI q)]) ++ List.replicate (8 - (lg_sl ([.ref (mo 0), .int (nI r), .int (nI q)])).length) Slot.unset).toArray = ls at hl ⊢
  have hl : lv_has ls 8 [(0, .ref (mo 0)), (1, .int (nI r)), (2, .int (nI q))] := hl
  refine lv_iload_n hx hb dM_sum_0 rfl (lv_at hl 2 rfl) ?_
  refine lv_bipush (v := nI 12) hx hb dM_sum_1 (by decide) ?_
  refine ni_ne (tgt := 21) hx hb dM_sum_3 (by decide) (by omega) (by omega) (fun h0 => ?_) (fun h0 => ?_)
  · have e0 : (if q = 12 then -M.dn * M.ri r else 0) = 0 := if_neg h0
    refine lv_lconst (v := 0) hx hb dM_sum_21 (by decide) ?_
    refine lv_lstore_n (lv' := [(3, .long 0), (0, .ref (mo 0)), (1, .int (nI r)), (2, .int (nI q))]) hx hb dM_sum_22 rfl hl (by decide) rfl (fun ls hl => ?_)
    refine lv_iconst (v := nI 0) hx hb dM_sum_23 (by decide) ?_
    refine lv_istore (lv' := [(5, .int (nI 0)), (3, .long 0), (0, .ref (mo 0)), (1, .int (nI r)), (2, .int (nI q))]) hx hb dM_sum_24 hl (by decide) rfl (fun ls hl => ?_)
    have loop26 : ∀ (n : Nat) (j : Nat) (acc : Int64) (ls : Array Slot), (j + n = M.co) → (suL M r q j n acc = suM M r q) → lv_has ls 8 [(5, .int (nI j)), (3, .long acc), (0, .ref (mo 0)), (1, .int (nI r)), (2, .int (nI q))] → W p l e (headSpec wM_sum ({ frames := 0, cells := 0, slots := 0, locals := 0 })).room s m ([.ref (mo 0), .int (nI r), .int (nI q)] : List Value).toArray below meth c s.heap [] 0 0 (MQ below (rQ (some (.long (suM M r q)))) ([.ref (mo 0), .int (nI r), .int (nI q)] : List Value).toArray s 0 0 (fun _ => False)) (F0 m 26 ls []) := by
      intro n
      induction n with
      | zero =>
        intro j acc ls hn hq hl
        refine lv_iload hx hb dM_sum_26 (lv_at hl 0 rfl) ?_
        refine lv_aload_n hx hb dM_sum_28 rfl (lv_at hl 2 rfl) ?_
        refine va_get (D := (dC, dI)) (ci := 2) (v := .int (nI M.co)) (C := RM) (T := FM) (N := 19) hx hb hta iM hown hK hP 0 rfl rfl 2 (by decide) (hta _ m_494) (fun _ h9 => h9) rfl dM_sum_29 ?_
        refine ni_ge (tgt := 106) hx hb dM_sum_32 (by decide) (by omega) (by omega) (fun c_1 => ?_) (fun c_1 => ?_)
        · refine lv_lload_n hx hb dM_sum_106 rfl (lv_at hl 1 rfl) ?_
          exact W.lret (v := acc) hx hb hr (fun t ht hW => ⟨congrArg (fun z => Outcome.returned (some (.long z))) (by rw [← hq]; rfl), ht⟩) (fun q h => nomatch h) dM_sum_107
        · exfalso; omega
      | succ n ih =>
        intro j acc ls hn hq hl
        refine lv_iload hx hb dM_sum_26 (lv_at hl 0 rfl) ?_
        refine lv_aload_n hx hb dM_sum_28 rfl (lv_at hl 2 rfl) ?_
        refine va_get (D := (dC, dI)) (ci := 2) (v := .int (nI M.co)) (C := RM) (T := FM) (N := 19) hx hb hta iM hown hK hP 0 rfl rfl 2 (by decide) (hta _ m_494) (fun _ h9 => h9) rfl dM_sum_29 ?_
        refine ni_ge (tgt := 106) hx hb dM_sum_32 (by decide) (by omega) (by omega) (fun c_2 => ?_) (fun c_2 => ?_)
        · exfalso; omega
        · refine lv_aload_n hx hb dM_sum_35 rfl (lv_at hl 2 rfl) ?_
          refine va_get (D := (dC, dI)) (ci := 2) (v := .ref (mo 7)) (C := RM) (T := FM) (N := 19) hx hb hta iM hown hK hP 0 rfl rfl 14 (by decide) (hta _ m_506) (fun _ h9 => h9) rfl dM_sum_36 ?_
          refine lv_iload hx hb dM_sum_39 (lv_at hl 0 rfl) ?_
          refine na_iald hx hb hK hP 7 6 rfl rfl (i := j) (by omega) (by decide) dM_sum_41 ?_
          refine W.eq (g2 := F0 m 42 ls [.int (enc (M.pl j))]) rfl ?_
          refine lv_iconst (v := (-1)) hx hb dM_sum_42 (by decide) ?_
          refine en_ne (o := (M.pl j)) (tgt := 61) hx hb dM_sum_43 (by decide) (fun j h => by have := hpl _ _ h; omega) (fun k9 ho => ?_) (fun ho => ?_)
          · have hj9 := hpl _ _ ho
            refine lv_aload_n hx hb dM_sum_61 rfl (lv_at hl 2 rfl) ?_
            refine va_get (D := (dC, dI)) (ci := 2) (v := .ref (mo 7)) (C := RM) (T := FM) (N := 19) hx hb hta iM hown hK hP 0 rfl rfl 14 (by decide) (hta _ m_506) (fun _ h9 => h9) rfl dM_sum_62 ?_
            refine lv_iload hx hb dM_sum_65 (lv_at hl 0 rfl) ?_
            refine na_iald hx hb hK hP 7 6 rfl rfl (i := j) (by omega) (by decide) dM_sum_67 ?_
            refine W.eq (g2 := F0 m 68 ls [.int (enc (M.pl j))]) rfl ?_
            refine st_i (y := nI k9) (by rw [ho]; rfl) ?_
            refine lv_iload_n hx hb dM_sum_68 rfl (lv_at hl 4 rfl) ?_
            refine ni_ne (tgt := 79) hx hb dM_sum_69 (by decide) (by omega) (by omega) (fun h1 => ?_) (fun h1 => ?_)
            · refine lv_lconst (v := 0) hx hb dM_sum_79 (by decide) ?_
              refine lv_lstore (lv' := [(6, .long 0), (5, .int (nI j)), (3, .long acc), (0, .ref (mo 0)), (1, .int (nI r)), (2, .int (nI q))]) hx hb dM_sum_80 hl (by decide) rfl (fun ls hl => ?_)
              refine lv_lload_n hx hb dM_sum_82 rfl (lv_at hl 2 rfl) ?_
              refine lv_aload_n hx hb dM_sum_83 rfl (lv_at hl 3 rfl) ?_
              refine va_get (D := (dC, dI)) (ci := 2) (v := .ref (mo 5)) (C := RM) (T := FM) (N := 19) hx hb hta iM hown hK hP 0 rfl rfl 8 (by decide) (hta _ m_500) (fun _ h9 => h9) rfl dM_sum_84 ?_
              refine lv_bipush (v := nI 12) hx hb dM_sum_87 (by decide) ?_
              refine lv_iload_n hx hb dM_sum_89 rfl (lv_at hl 4 rfl) ?_
              refine lv_imul hx hb dM_sum_90 ?_
              refine st_i (y := nI (12 * r)) (pk_mul _ _) ?_
              refine lv_iload hx hb dM_sum_91 (lv_at hl 1 rfl) ?_
              refine lv_iadd hx hb dM_sum_93 ?_
              refine st_i (y := nI ((12 * r) + j)) (nI_add _ _) ?_
              refine na_lald hx hb hK hP 5 4 rfl rfl (i := ((12 * r) + j)) (by omega) (by decide) dM_sum_94 ?_
              refine lv_lload hx hb dM_sum_95 (lv_at hl 0 rfl) ?_
              refine lv_lmul hx hb dM_sum_97 ?_
              refine lv_ladd hx hb dM_sum_98 ?_
              refine lv_lstore_n (lv' := [(3, .long (acc + ((M.fa ((12 * r) + j)) * 0))), (6, .long 0), (5, .int (nI j)), (0, .ref (mo 0)), (1, .int (nI r)), (2, .int (nI q))]) hx hb dM_sum_99 rfl hl (by decide) rfl (fun ls hl => ?_)
              refine lv_iinc (v := nI (j + 1)) (lv' := [(5, .int (nI (j + 1))), (3, .long (acc + ((M.fa ((12 * r) + j)) * 0))), (6, .long 0), (0, .ref (mo 0)), (1, .int (nI r)), (2, .int (nI q))]) hx hb dM_sum_100 hl (k := 2) rfl (nI_add j 1) (by decide) rfl (fun ls hl => ?_)
              refine lv_goto (tgt := 26) hx hb dM_sum_103 (by decide) ?_
              exact ih (j + 1) (acc + ((M.fa ((12 * r) + j)) * 0)) ls (by omega) (by rw [← hq, suL]; first | (simp [ptR, ho, h1]; done) | simp [ptR, ho]) (lv_sub hl [0, 1, 3, 4, 5] rfl)
            · refine lv_aload_n hx hb dM_sum_72 rfl (lv_at hl 2 rfl) ?_
              refine va_get (D := (dC, dI)) (ci := 2) (v := .long M.dn) (C := RM) (T := FM) (N := 19) hx hb hta iM hown hK hP 0 rfl rfl 13 (by decide) (hta _ m_505) (fun _ h9 => h9) rfl dM_sum_73 ?_
              refine lv_goto (tgt := 80) hx hb dM_sum_76 (by decide) ?_
              refine lv_lstore (lv' := [(6, .long M.dn), (5, .int (nI j)), (3, .long acc), (0, .ref (mo 0)), (1, .int (nI r)), (2, .int (nI q))]) hx hb dM_sum_80 hl (by decide) rfl (fun ls hl => ?_)
              refine lv_lload_n hx hb dM_sum_82 rfl (lv_at hl 2 rfl) ?_
              refine lv_aload_n hx hb dM_sum_83 rfl (lv_at hl 3 rfl) ?_
              refine va_get (D := (dC, dI)) (ci := 2) (v := .ref (mo 5)) (C := RM) (T := FM) (N := 19) hx hb hta iM hown hK hP 0 rfl rfl 8 (by decide) (hta _ m_500) (fun _ h9 => h9) rfl dM_sum_84 ?_
              refine lv_bipush (v := nI 12) hx hb dM_sum_87 (by decide) ?_
              refine lv_iload_n hx hb dM_sum_89 rfl (lv_at hl 4 rfl) ?_
              refine lv_imul hx hb dM_sum_90 ?_
              refine st_i (y := nI (12 * r)) (pk_mul _ _) ?_
              refine lv_iload hx hb dM_sum_91 (lv_at hl 1 rfl) ?_
              refine lv_iadd hx hb dM_sum_93 ?_
              refine st_i (y := nI ((12 * r) + j)) (nI_add _ _) ?_
              refine na_lald hx hb hK hP 5 4 rfl rfl (i := ((12 * r) + j)) (by omega) (by decide) dM_sum_94 ?_
              refine lv_lload hx hb dM_sum_95 (lv_at hl 0 rfl) ?_
              refine lv_lmul hx hb dM_sum_97 ?_
              refine lv_ladd hx hb dM_sum_98 ?_
              refine lv_lstore_n (lv' := [(3, .long (acc + ((M.fa ((12 * r) + j)) * M.dn))), (6, .long M.dn), (5, .int (nI j)), (0, .ref (mo 0)), (1, .int (nI r)), (2, .int (nI q))]) hx hb dM_sum_99 rfl hl (by decide) rfl (fun ls hl => ?_)
              refine lv_iinc (v := nI (j + 1)) (lv' := [(5, .int (nI (j + 1))), (3, .long (acc + ((M.fa ((12 * r) + j)) * M.dn))), (6, .long M.dn), (0, .ref (mo 0)), (1, .int (nI r)), (2, .int (nI q))]) hx hb dM_sum_100 hl (k := 2) rfl (nI_add j 1) (by decide) rfl (fun ls hl => ?_)
              refine lv_goto (tgt := 26) hx hb dM_sum_103 (by decide) ?_
              exact ih (j + 1) (acc + ((M.fa ((12 * r) + j)) * M.dn)) ls (by omega) (by rw [← hq, suL]; first | (simp [ptR, ho, h1]; done) | simp [ptR, ho]) (lv_sub hl [0, 1, 3, 4, 5] rfl)
          · refine lv_aload_n hx hb dM_sum_46 rfl (lv_at hl 2 rfl) ?_
            refine va_get (D := (dC, dI)) (ci := 2) (v := .ref (mo 9)) (C := RM) (T := FM) (N := 19) hx hb hta iM hown hK hP 0 rfl rfl 16 (by decide) (hta _ m_508) (fun _ h9 => h9) rfl dM_sum_47 ?_
            refine lv_bipush (v := nI 13) hx hb dM_sum_50 (by decide) ?_
            refine lv_iload hx hb dM_sum_52 (lv_at hl 0 rfl) ?_
            refine lv_imul hx hb dM_sum_54 ?_
            refine st_i (y := nI (13 * j)) (pk_mul _ _) ?_
            refine lv_iload_n hx hb dM_sum_55 rfl (lv_at hl 4 rfl) ?_
            refine lv_iadd hx hb dM_sum_56 ?_
            refine st_i (y := nI ((13 * j) + q)) (nI_add _ _) ?_
            refine na_lald hx hb hK hP 9 8 rfl rfl (i := ((13 * j) + q)) (by omega) (by decide) dM_sum_57 ?_
            refine lv_goto (tgt := 80) hx hb dM_sum_58 (by decide) ?_
            refine lv_lstore (lv' := [(6, .long (M.ta ((13 * j) + q))), (5, .int (nI j)), (3, .long acc), (0, .ref (mo 0)), (1, .int (nI r)), (2, .int (nI q))]) hx hb dM_sum_80 hl (by decide) rfl (fun ls hl => ?_)
            refine lv_lload_n hx hb dM_sum_82 rfl (lv_at hl 2 rfl) ?_
            refine lv_aload_n hx hb dM_sum_83 rfl (lv_at hl 3 rfl) ?_
            refine va_get (D := (dC, dI)) (ci := 2) (v := .ref (mo 5)) (C := RM) (T := FM) (N := 19) hx hb hta iM hown hK hP 0 rfl rfl 8 (by decide) (hta _ m_500) (fun _ h9 => h9) rfl dM_sum_84 ?_
            refine lv_bipush (v := nI 12) hx hb dM_sum_87 (by decide) ?_
            refine lv_iload_n hx hb dM_sum_89 rfl (lv_at hl 4 rfl) ?_
            refine lv_imul hx hb dM_sum_90 ?_
            refine st_i (y := nI (12 * r)) (pk_mul _ _) ?_
            refine lv_iload hx hb dM_sum_91 (lv_at hl 1 rfl) ?_
            refine lv_iadd hx hb dM_sum_93 ?_
            refine st_i (y := nI ((12 * r) + j)) (nI_add _ _) ?_
            refine na_lald hx hb hK hP 5 4 rfl rfl (i := ((12 * r) + j)) (by omega) (by decide) dM_sum_94 ?_
            refine lv_lload hx hb dM_sum_95 (lv_at hl 0 rfl) ?_
            refine lv_lmul hx hb dM_sum_97 ?_
            refine lv_ladd hx hb dM_sum_98 ?_
            refine lv_lstore_n (lv' := [(3, .long (acc + ((M.fa ((12 * r) + j)) * (M.ta ((13 * j) + q))))), (6, .long (M.ta ((13 * j) + q))), (5, .int (nI j)), (0, .ref (mo 0)), (1, .int (nI r)), (2, .int (nI q))]) hx hb dM_sum_99 rfl hl (by decide) rfl (fun ls hl => ?_)
            refine lv_iinc (v := nI (j + 1)) (lv' := [(5, .int (nI (j + 1))), (3, .long (acc + ((M.fa ((12 * r) + j)) * (M.ta ((13 * j) + q))))), (6, .long (M.ta ((13 * j) + q))), (0, .ref (mo 0)), (1, .int (nI r)), (2, .int (nI q))]) hx hb dM_sum_100 hl (k := 2) rfl (nI_add j 1) (by decide) rfl (fun ls hl => ?_)
            refine lv_goto (tgt := 26) hx hb dM_sum_103 (by decide) ?_
            exact ih (j + 1) (acc + ((M.fa ((12 * r) + j)) * (M.ta ((13 * j) + q)))) ls (by omega) (by rw [← hq, suL]; first | (simp [ptR, ho, h1]; done) | simp [ptR, ho]) (lv_sub hl [0, 1, 3, 4, 5] rfl)
    exact loop26 M.co 0 (0) ls (by omega) (by rw [suM, e0]) (lv_sub hl [0, 1, 2, 3, 4] rfl)
  · have e0 : (if q = 12 then -M.dn * M.ri r else 0) = -M.dn * M.ri r := if_pos h0
    refine lv_aload_n hx hb dM_sum_6 rfl (lv_at hl 0 rfl) ?_
    refine va_get (D := (dC, dI)) (ci := 2) (v := .long M.dn) (C := RM) (T := FM) (N := 19) hx hb hta iM hown hK hP 0 rfl rfl 13 (by decide) (hta _ m_505) (fun _ h9 => h9) rfl dM_sum_7 ?_
    refine lv_lneg hx hb dM_sum_10 ?_
    refine lv_aload_n hx hb dM_sum_11 rfl (lv_at hl 0 rfl) ?_
    refine va_get (D := (dC, dI)) (ci := 2) (v := .ref (mo 4)) (C := RM) (T := FM) (N := 19) hx hb hta iM hown hK hP 0 rfl rfl 7 (by decide) (hta _ m_499) (fun _ h9 => h9) rfl dM_sum_12 ?_
    refine lv_iload_n hx hb dM_sum_15 rfl (lv_at hl 1 rfl) ?_
    refine na_lald hx hb hK hP 4 3 rfl rfl (i := r) (by omega) (by decide) dM_sum_16 ?_
    refine lv_lmul hx hb dM_sum_17 ?_
    refine lv_goto (tgt := 22) hx hb dM_sum_18 (by decide) ?_
    refine lv_lstore_n (lv' := [(3, .long ((-M.dn) * (M.ri r))), (0, .ref (mo 0)), (1, .int (nI r)), (2, .int (nI q))]) hx hb dM_sum_22 rfl hl (by decide) rfl (fun ls hl => ?_)
    refine lv_iconst (v := nI 0) hx hb dM_sum_23 (by decide) ?_
    refine lv_istore (lv' := [(5, .int (nI 0)), (3, .long ((-M.dn) * (M.ri r))), (0, .ref (mo 0)), (1, .int (nI r)), (2, .int (nI q))]) hx hb dM_sum_24 hl (by decide) rfl (fun ls hl => ?_)
    have loop26 : ∀ (n : Nat) (j : Nat) (acc : Int64) (ls : Array Slot), (j + n = M.co) → (suL M r q j n acc = suM M r q) → lv_has ls 8 [(5, .int (nI j)), (3, .long acc), (0, .ref (mo 0)), (1, .int (nI r)), (2, .int (nI q))] → W p l e (headSpec wM_sum ({ frames := 0, cells := 0, slots := 0, locals := 0 })).room s m ([.ref (mo 0), .int (nI r), .int (nI q)] : List Value).toArray below meth c s.heap [] 0 0 (MQ below (rQ (some (.long (suM M r q)))) ([.ref (mo 0), .int (nI r), .int (nI q)] : List Value).toArray s 0 0 (fun _ => False)) (F0 m 26 ls []) := by
      intro n
      induction n with
      | zero =>
        intro j acc ls hn hq hl
        refine lv_iload hx hb dM_sum_26 (lv_at hl 0 rfl) ?_
        refine lv_aload_n hx hb dM_sum_28 rfl (lv_at hl 2 rfl) ?_
        refine va_get (D := (dC, dI)) (ci := 2) (v := .int (nI M.co)) (C := RM) (T := FM) (N := 19) hx hb hta iM hown hK hP 0 rfl rfl 2 (by decide) (hta _ m_494) (fun _ h9 => h9) rfl dM_sum_29 ?_
        refine ni_ge (tgt := 106) hx hb dM_sum_32 (by decide) (by omega) (by omega) (fun c_3 => ?_) (fun c_3 => ?_)
        · refine lv_lload_n hx hb dM_sum_106 rfl (lv_at hl 1 rfl) ?_
          exact W.lret (v := acc) hx hb hr (fun t ht hW => ⟨congrArg (fun z => Outcome.returned (some (.long z))) (by rw [← hq]; rfl), ht⟩) (fun q h => nomatch h) dM_sum_107
        · exfalso; omega
      | succ n ih =>
        intro j acc ls hn hq hl
        refine lv_iload hx hb dM_sum_26 (lv_at hl 0 rfl) ?_
        refine lv_aload_n hx hb dM_sum_28 rfl (lv_at hl 2 rfl) ?_
        refine va_get (D := (dC, dI)) (ci := 2) (v := .int (nI M.co)) (C := RM) (T := FM) (N := 19) hx hb hta iM hown hK hP 0 rfl rfl 2 (by decide) (hta _ m_494) (fun _ h9 => h9) rfl dM_sum_29 ?_
        refine ni_ge (tgt := 106) hx hb dM_sum_32 (by decide) (by omega) (by omega) (fun c_4 => ?_) (fun c_4 => ?_)
        · exfalso; omega
        · refine lv_aload_n hx hb dM_sum_35 rfl (lv_at hl 2 rfl) ?_
          refine va_get (D := (dC, dI)) (ci := 2) (v := .ref (mo 7)) (C := RM) (T := FM) (N := 19) hx hb hta iM hown hK hP 0 rfl rfl 14 (by decide) (hta _ m_506) (fun _ h9 => h9) rfl dM_sum_36 ?_
          refine lv_iload hx hb dM_sum_39 (lv_at hl 0 rfl) ?_
          refine na_iald hx hb hK hP 7 6 rfl rfl (i := j) (by omega) (by decide) dM_sum_41 ?_
          refine W.eq (g2 := F0 m 42 ls [.int (enc (M.pl j))]) rfl ?_
          refine lv_iconst (v := (-1)) hx hb dM_sum_42 (by decide) ?_
          refine en_ne (o := (M.pl j)) (tgt := 61) hx hb dM_sum_43 (by decide) (fun j h => by have := hpl _ _ h; omega) (fun k9 ho => ?_) (fun ho => ?_)
          · have hj9 := hpl _ _ ho
            refine lv_aload_n hx hb dM_sum_61 rfl (lv_at hl 2 rfl) ?_
            refine va_get (D := (dC, dI)) (ci := 2) (v := .ref (mo 7)) (C := RM) (T := FM) (N := 19) hx hb hta iM hown hK hP 0 rfl rfl 14 (by decide) (hta _ m_506) (fun _ h9 => h9) rfl dM_sum_62 ?_
            refine lv_iload hx hb dM_sum_65 (lv_at hl 0 rfl) ?_
            refine na_iald hx hb hK hP 7 6 rfl rfl (i := j) (by omega) (by decide) dM_sum_67 ?_
            refine W.eq (g2 := F0 m 68 ls [.int (enc (M.pl j))]) rfl ?_
            refine st_i (y := nI k9) (by rw [ho]; rfl) ?_
            refine lv_iload_n hx hb dM_sum_68 rfl (lv_at hl 4 rfl) ?_
            refine ni_ne (tgt := 79) hx hb dM_sum_69 (by decide) (by omega) (by omega) (fun h1 => ?_) (fun h1 => ?_)
            · refine lv_lconst (v := 0) hx hb dM_sum_79 (by decide) ?_
              refine lv_lstore (lv' := [(6, .long 0), (5, .int (nI j)), (3, .long acc), (0, .ref (mo 0)), (1, .int (nI r)), (2, .int (nI q))]) hx hb dM_sum_80 hl (by decide) rfl (fun ls hl => ?_)
              refine lv_lload_n hx hb dM_sum_82 rfl (lv_at hl 2 rfl) ?_
              refine lv_aload_n hx hb dM_sum_83 rfl (lv_at hl 3 rfl) ?_
              refine va_get (D := (dC, dI)) (ci := 2) (v := .ref (mo 5)) (C := RM) (T := FM) (N := 19) hx hb hta iM hown hK hP 0 rfl rfl 8 (by decide) (hta _ m_500) (fun _ h9 => h9) rfl dM_sum_84 ?_
              refine lv_bipush (v := nI 12) hx hb dM_sum_87 (by decide) ?_
              refine lv_iload_n hx hb dM_sum_89 rfl (lv_at hl 4 rfl) ?_
              refine lv_imul hx hb dM_sum_90 ?_
              refine st_i (y := nI (12 * r)) (pk_mul _ _) ?_
              refine lv_iload hx hb dM_sum_91 (lv_at hl 1 rfl) ?_
              refine lv_iadd hx hb dM_sum_93 ?_
              refine st_i (y := nI ((12 * r) + j)) (nI_add _ _) ?_
              refine na_lald hx hb hK hP 5 4 rfl rfl (i := ((12 * r) + j)) (by omega) (by decide) dM_sum_94 ?_
              refine lv_lload hx hb dM_sum_95 (lv_at hl 0 rfl) ?_
              refine lv_lmul hx hb dM_sum_97 ?_
              refine lv_ladd hx hb dM_sum_98 ?_
              refine lv_lstore_n (lv' := [(3, .long (acc + ((M.fa ((12 * r) + j)) * 0))), (6, .long 0), (5, .int (nI j)), (0, .ref (mo 0)), (1, .int (nI r)), (2, .int (nI q))]) hx hb dM_sum_99 rfl hl (by decide) rfl (fun ls hl => ?_)
              refine lv_iinc (v := nI (j + 1)) (lv' := [(5, .int (nI (j + 1))), (3, .long (acc + ((M.fa ((12 * r) + j)) * 0))), (6, .long 0), (0, .ref (mo 0)), (1, .int (nI r)), (2, .int (nI q))]) hx hb dM_sum_100 hl (k := 2) rfl (nI_add j 1) (by decide) rfl (fun ls hl => ?_)
              refine lv_goto (tgt := 26) hx hb dM_sum_103 (by decide) ?_
              exact ih (j + 1) (acc + ((M.fa ((12 * r) + j)) * 0)) ls (by omega) (by rw [← hq, suL]; first | (simp [ptR, ho, h1]; done) | simp [ptR, ho]) (lv_sub hl [0, 1, 3, 4, 5] rfl)
            · refine lv_aload_n hx hb dM_sum_72 rfl (lv_at hl 2 rfl) ?_
              refine va_get (D := (dC, dI)) (ci := 2) (v := .long M.dn) (C := RM) (T := FM) (N := 19) hx hb hta iM hown hK hP 0 rfl rfl 13 (by decide) (hta _ m_505) (fun _ h9 => h9) rfl dM_sum_73 ?_
              refine lv_goto (tgt := 80) hx hb dM_sum_76 (by decide) ?_
              refine lv_lstore (lv' := [(6, .long M.dn), (5, .int (nI j)), (3, .long acc), (0, .ref (mo 0)), (1, .int (nI r)), (2, .int (nI q))]) hx hb dM_sum_80 hl (by decide) rfl (fun ls hl => ?_)
              refine lv_lload_n hx hb dM_sum_82 rfl (lv_at hl 2 rfl) ?_
              refine lv_aload_n hx hb dM_sum_83 rfl (lv_at hl 3 rfl) ?_
              refine va_get (D := (dC, dI)) (ci := 2) (v := .ref (mo 5)) (C := RM) (T := FM) (N := 19) hx hb hta iM hown hK hP 0 rfl rfl 8 (by decide) (hta _ m_500) (fun _ h9 => h9) rfl dM_sum_84 ?_
              refine lv_bipush (v := nI 12) hx hb dM_sum_87 (by decide) ?_
              refine lv_iload_n hx hb dM_sum_89 rfl (lv_at hl 4 rfl) ?_
              refine lv_imul hx hb dM_sum_90 ?_
              refine st_i (y := nI (12 * r)) (pk_mul _ _) ?_
              refine lv_iload hx hb dM_sum_91 (lv_at hl 1 rfl) ?_
              refine lv_iadd hx hb dM_sum_93 ?_
              refine st_i (y := nI ((12 * r) + j)) (nI_add _ _) ?_
              refine na_lald hx hb hK hP 5 4 rfl rfl (i := ((12 * r) + j)) (by omega) (by decide) dM_sum_94 ?_
              refine lv_lload hx hb dM_sum_95 (lv_at hl 0 rfl) ?_
              refine lv_lmul hx hb dM_sum_97 ?_
              refine lv_ladd hx hb dM_sum_98 ?_
              refine lv_lstore_n (lv' := [(3, .long (acc + ((M.fa ((12 * r) + j)) * M.dn))), (6, .long M.dn), (5, .int (nI j)), (0, .ref (mo 0)), (1, .int (nI r)), (2, .int (nI q))]) hx hb dM_sum_99 rfl hl (by decide) rfl (fun ls hl => ?_)
              refine lv_iinc (v := nI (j + 1)) (lv' := [(5, .int (nI (j + 1))), (3, .long (acc + ((M.fa ((12 * r) + j)) * M.dn))), (6, .long M.dn), (0, .ref (mo 0)), (1, .int (nI r)), (2, .int (nI q))]) hx hb dM_sum_100 hl (k := 2) rfl (nI_add j 1) (by decide) rfl (fun ls hl => ?_)
              refine lv_goto (tgt := 26) hx hb dM_sum_103 (by decide) ?_
              exact ih (j + 1) (acc + ((M.fa ((12 * r) + j)) * M.dn)) ls (by omega) (by rw [← hq, suL]; first | (simp [ptR, ho, h1]; done) | simp [ptR, ho]) (lv_sub hl [0, 1, 3, 4, 5] rfl)
          · refine lv_aload_n hx hb dM_sum_46 rfl (lv_at hl 2 rfl) ?_
            refine va_get (D := (dC, dI)) (ci := 2) (v := .ref (mo 9)) (C := RM) (T := FM) (N := 19) hx hb hta iM hown hK hP 0 rfl rfl 16 (by decide) (hta _ m_508) (fun _ h9 => h9) rfl dM_sum_47 ?_
            refine lv_bipush (v := nI 13) hx hb dM_sum_50 (by decide) ?_
            refine lv_iload hx hb dM_sum_52 (lv_at hl 0 rfl) ?_
            refine lv_imul hx hb dM_sum_54 ?_
            refine st_i (y := nI (13 * j)) (pk_mul _ _) ?_
            refine lv_iload_n hx hb dM_sum_55 rfl (lv_at hl 4 rfl) ?_
            refine lv_iadd hx hb dM_sum_56 ?_
            refine st_i (y := nI ((13 * j) + q)) (nI_add _ _) ?_
            refine na_lald hx hb hK hP 9 8 rfl rfl (i := ((13 * j) + q)) (by omega) (by decide) dM_sum_57 ?_
            refine lv_goto (tgt := 80) hx hb dM_sum_58 (by decide) ?_
            refine lv_lstore (lv' := [(6, .long (M.ta ((13 * j) + q))), (5, .int (nI j)), (3, .long acc), (0, .ref (mo 0)), (1, .int (nI r)), (2, .int (nI q))]) hx hb dM_sum_80 hl (by decide) rfl (fun ls hl => ?_)
            refine lv_lload_n hx hb dM_sum_82 rfl (lv_at hl 2 rfl) ?_
            refine lv_aload_n hx hb dM_sum_83 rfl (lv_at hl 3 rfl) ?_
            refine va_get (D := (dC, dI)) (ci := 2) (v := .ref (mo 5)) (C := RM) (T := FM) (N := 19) hx hb hta iM hown hK hP 0 rfl rfl 8 (by decide) (hta _ m_500) (fun _ h9 => h9) rfl dM_sum_84 ?_
            refine lv_bipush (v := nI 12) hx hb dM_sum_87 (by decide) ?_
            refine lv_iload_n hx hb dM_sum_89 rfl (lv_at hl 4 rfl) ?_
            refine lv_imul hx hb dM_sum_90 ?_
            refine st_i (y := nI (12 * r)) (pk_mul _ _) ?_
            refine lv_iload hx hb dM_sum_91 (lv_at hl 1 rfl) ?_
            refine lv_iadd hx hb dM_sum_93 ?_
            refine st_i (y := nI ((12 * r) + j)) (nI_add _ _) ?_
            refine na_lald hx hb hK hP 5 4 rfl rfl (i := ((12 * r) + j)) (by omega) (by decide) dM_sum_94 ?_
            refine lv_lload hx hb dM_sum_95 (lv_at hl 0 rfl) ?_
            refine lv_lmul hx hb dM_sum_97 ?_
            refine lv_ladd hx hb dM_sum_98 ?_
            refine lv_lstore_n (lv' := [(3, .long (acc + ((M.fa ((12 * r) + j)) * (M.ta ((13 * j) + q))))), (6, .long (M.ta ((13 * j) + q))), (5, .int (nI j)), (0, .ref (mo 0)), (1, .int (nI r)), (2, .int (nI q))]) hx hb dM_sum_99 rfl hl (by decide) rfl (fun ls hl => ?_)
            refine lv_iinc (v := nI (j + 1)) (lv' := [(5, .int (nI (j + 1))), (3, .long (acc + ((M.fa ((12 * r) + j)) * (M.ta ((13 * j) + q))))), (6, .long (M.ta ((13 * j) + q))), (0, .ref (mo 0)), (1, .int (nI r)), (2, .int (nI q))]) hx hb dM_sum_100 hl (k := 2) rfl (nI_add j 1) (by decide) rfl (fun ls hl => ?_)
            refine lv_goto (tgt := 26) hx hb dM_sum_103 (by decide) ?_
            exact ih (j + 1) (acc + ((M.fa ((12 * r) + j)) * (M.ta ((13 * j) + q)))) ls (by omega) (by rw [← hq, suL]; first | (simp [ptR, ho, h1]; done) | simp [ptR, ho]) (lv_sub hl [0, 1, 3, 4, 5] rfl)
    exact loop26 M.co 0 ((-M.dn) * (M.ri r)) ls (by omega) (by rw [suM, e0]) (lv_sub hl [0, 1, 2, 3, 4] rfl)

set_option maxHeartbeats 4000000 in
set_option maxRecDepth 100000 in
theorem c_M_leaving (l : Launch) (dC : Nat → ClassId) (dI : Nat → Nat → Nat) (mo : Nat → Nat) (km : Nat → ClassId) (M : MS)  (hcl : M.co + M.ln ≤ 36) (hpl : ∀ v k, M.pl v = some k → k < 12) : Met l yM_leaving wM_leaving ({ frames := 0, cells := 0, slots := 0, locals := 0 }) (rPc [.ref (mo 0)] (dC, dI) vwCl (MW mo km M) (MK km) xT) (rQ (some (.int (enc (lvR M 0 (M.co + M.ln)))))) 0 0 (fun _ => False) := by
  refine Met.ofW (cc := bM_leaving) (maxL := 2) (ret := (some .int)) (by decide) rfl ?_
  intro p e s m args below meth c s₁ B hml hv
  obtain ⟨rfl, hP, hK, hX⟩ := hv
  have hx := B.exec
  have hb := B.bytes
  have hr := B.returns
  have hts := atoms_spec (ws := wM_leaving) B.pre
  have hta : ∀ w ∈ AW, w.before _ s = true := fun w h => hts w (List.mem_cons_of_mem _ h)
  have hown : s.vm.findClass RM = some m.cls := findClass_of_methodNamed B.named
  have hlocks := B.notSynchronized
  have hl := lv_entry ([.ref (mo 0)]) (n := 2) (Nat.le_of_ble_eq_true rfl)
  rw [lg_entry_eq]
  generalize (lg_sl ([.ref (mo 0)]) ++ List.replicate (2 - (lg_sl ([.ref (mo 0)])).length) Slot.unset).toArray = ls at hl ⊢
  have hl : lv_has ls 2 [(0, .ref (mo 0))] := hl
  refine lv_iconst (v := nI 0) hx hb dM_leaving_0 (by decide) ?_
  refine lv_istore_n (lv' := [(1, .int (nI 0)), (0, .ref (mo 0))]) hx hb dM_leaving_1 rfl hl (by decide) rfl (fun ls hl => ?_)
  have loop2 : ∀ (n : Nat) (i : Nat) (ls : Array Slot), (i + n = M.co + M.ln) → (lvR M i n = lvR M 0 (M.co + M.ln)) → lv_has ls 2 [(1, .int (nI i)), (0, .ref (mo 0))] → W p l e (headSpec wM_leaving ({ frames := 0, cells := 0, slots := 0, locals := 0 })).room s m ([.ref (mo 0)] : List Value).toArray below meth c s.heap [] 0 0 (MQ below (rQ (some (.int (enc (lvR M 0 (M.co + M.ln)))))) ([.ref (mo 0)] : List Value).toArray s 0 0 (fun _ => False)) (F0 m 2 ls []) := by
    intro n
    induction n with
    | zero =>
      intro i ls hn hq hl
      refine lv_iload_n hx hb dM_leaving_2 rfl (lv_at hl 0 rfl) ?_
      refine lv_aload_n hx hb dM_leaving_3 rfl (lv_at hl 1 rfl) ?_
      refine va_get (D := (dC, dI)) (ci := 2) (v := .int (nI M.co)) (C := RM) (T := FM) (N := 19) hx hb hta iM hown hK hP 0 rfl rfl 2 (by decide) (hta _ m_494) (fun _ h9 => h9) rfl dM_leaving_4 ?_
      refine lv_aload_n hx hb dM_leaving_7 rfl (lv_at hl 1 rfl) ?_
      refine va_get (D := (dC, dI)) (ci := 2) (v := .int (nI M.ln)) (C := RM) (T := FM) (N := 19) hx hb hta iM hown hK hP 0 rfl rfl 10 (by decide) (hta _ m_502) (fun _ h9 => h9) rfl dM_leaving_8 ?_
      refine lv_iadd hx hb dM_leaving_11 ?_
      refine st_i (y := nI (M.co + M.ln)) (nI_add _ _) ?_
      refine ni_ge (tgt := 50) hx hb dM_leaving_12 (by decide) (by omega) (by omega) (fun c_1 => ?_) (fun c_1 => ?_)
      · refine lv_iconst (v := (-1)) hx hb dM_leaving_50 (by decide) ?_
        exact W.iret (v := (-1)) hx hb hr (fun t ht hW => ⟨congrArg (fun z => Outcome.returned (some (.int z))) (by rw [← hq]; rfl), ht⟩) (fun q h => nomatch h) dM_leaving_51
      · exfalso; omega
    | succ n ih =>
      intro i ls hn hq hl
      refine lv_iload_n hx hb dM_leaving_2 rfl (lv_at hl 0 rfl) ?_
      refine lv_aload_n hx hb dM_leaving_3 rfl (lv_at hl 1 rfl) ?_
      refine va_get (D := (dC, dI)) (ci := 2) (v := .int (nI M.co)) (C := RM) (T := FM) (N := 19) hx hb hta iM hown hK hP 0 rfl rfl 2 (by decide) (hta _ m_494) (fun _ h9 => h9) rfl dM_leaving_4 ?_
      refine lv_aload_n hx hb dM_leaving_7 rfl (lv_at hl 1 rfl) ?_
      refine va_get (D := (dC, dI)) (ci := 2) (v := .int (nI M.ln)) (C := RM) (T := FM) (N := 19) hx hb hta iM hown hK hP 0 rfl rfl 10 (by decide) (hta _ m_502) (fun _ h9 => h9) rfl dM_leaving_8 ?_
      refine lv_iadd hx hb dM_leaving_11 ?_
      refine st_i (y := nI (M.co + M.ln)) (nI_add _ _) ?_
      refine ni_ge (tgt := 50) hx hb dM_leaving_12 (by decide) (by omega) (by omega) (fun c_2 => ?_) (fun c_2 => ?_)
      · exfalso; omega
      · refine lv_aload_n hx hb dM_leaving_15 rfl (lv_at hl 1 rfl) ?_
        refine va_get (D := (dC, dI)) (ci := 2) (v := .ref (mo 7)) (C := RM) (T := FM) (N := 19) hx hb hta iM hown hK hP 0 rfl rfl 14 (by decide) (hta _ m_506) (fun _ h9 => h9) rfl dM_leaving_16 ?_
        refine lv_iload_n hx hb dM_leaving_19 rfl (lv_at hl 0 rfl) ?_
        refine na_iald hx hb hK hP 7 6 rfl rfl (i := i) (by omega) (by decide) dM_leaving_20 ?_
        refine W.eq (g2 := F0 m 21 ls [.int (enc (M.pl i))]) rfl ?_
        refine lv_iconst (v := (-1)) hx hb dM_leaving_21 (by decide) ?_
        refine en_ne (o := (M.pl i)) (tgt := 44) hx hb dM_leaving_22 (by decide) (fun j h => by have := hpl _ _ h; omega) (fun j_3 ho => ?_) (fun ho => ?_)
        · have hj9 := hpl _ _ ho
          refine lv_iinc (v := nI (i + 1)) (lv' := [(1, .int (nI (i + 1))), (0, .ref (mo 0))]) hx hb dM_leaving_44 hl (k := 0) rfl (nI_add i 1) (by decide) rfl (fun ls hl => ?_)
          refine lv_goto (tgt := 2) hx hb dM_leaving_47 (by decide) ?_
          exact ih (i + 1) ls (by omega) (by rw [← hq, lvR]; first | (rw [if_neg (fun z => h1 z.2)]; done) | (rw [if_neg (fun z => by rw [ho] at z; exact nomatch z.1)])) (lv_sub hl [0, 1] rfl)
        · refine lv_aload_n hx hb dM_leaving_25 rfl (lv_at hl 1 rfl) ?_
          refine va_get (D := (dC, dI)) (ci := 2) (v := .ref (mo 9)) (C := RM) (T := FM) (N := 19) hx hb hta iM hown hK hP 0 rfl rfl 16 (by decide) (hta _ m_508) (fun _ h9 => h9) rfl dM_leaving_26 ?_
          refine lv_bipush (v := nI 13) hx hb dM_leaving_29 (by decide) ?_
          refine lv_iload_n hx hb dM_leaving_31 rfl (lv_at hl 0 rfl) ?_
          refine lv_imul hx hb dM_leaving_32 ?_
          refine st_i (y := nI (13 * i)) (pk_mul _ _) ?_
          refine lv_bipush (v := nI 12) hx hb dM_leaving_33 (by decide) ?_
          refine lv_iadd hx hb dM_leaving_35 ?_
          refine st_i (y := nI ((13 * i) + 12)) (nI_add _ _) ?_
          refine na_lald hx hb hK hP 9 8 rfl rfl (i := ((13 * i) + 12)) (by omega) (by decide) dM_leaving_36 ?_
          refine lv_lconst (v := 0) hx hb dM_leaving_37 (by decide) ?_
          refine ll_ge (tgt := 44) hx hb dM_leaving_38 dM_leaving_39 (by decide) (fun h1 => ?_) (fun h1 => ?_)
          · refine lv_iinc (v := nI (i + 1)) (lv' := [(1, .int (nI (i + 1))), (0, .ref (mo 0))]) hx hb dM_leaving_44 hl (k := 0) rfl (nI_add i 1) (by decide) rfl (fun ls hl => ?_)
            refine lv_goto (tgt := 2) hx hb dM_leaving_47 (by decide) ?_
            exact ih (i + 1) ls (by omega) (by rw [← hq, lvR]; first | (rw [if_neg (fun z => h1 z.2)]; done) | (rw [if_neg (fun z => by rw [ho] at z; exact nomatch z.1)])) (lv_sub hl [0, 1] rfl)
          · refine lv_iload_n hx hb dM_leaving_42 rfl (lv_at hl 0 rfl) ?_
            exact W.iret (v := nI i) hx hb hr (fun t ht hW => ⟨congrArg (fun z => Outcome.returned (some (.int z))) (by rw [← hq, lvR, if_pos ⟨ho, h1⟩]; rfl), ht⟩) (fun q h => nomatch h) dM_leaving_43
  exact loop2 (M.co + M.ln) 0 ls (by omega) rfl (lv_sub hl [0, 1] rfl)

set_option maxHeartbeats 4000000 in
set_option maxRecDepth 100000 in
theorem c_M_entering (l : Launch) (dC : Nat → ClassId) (dI : Nat → Nat → Nat) (mo : Nat → Nat) (km : Nat → ClassId) (M : MS) (le : Nat) (hco : M.co ≤ 12) (hle : le < 37) (hou : ∀ k, M.ou k < 36) : Met l yM_entering wM_entering ({ frames := 0, cells := 0, slots := 0, locals := 0 }) (rPc [.ref (mo 0), .int (nI le)] (dC, dI) vwCl (MW mo km M) (MK km) xT) (rQ (some (.int (enc (enR M le 0 M.co none))))) 0 0 (fun _ => False) := by
  refine Met.ofW (cc := bM_entering) (maxL := 10) (ret := (some .int)) (by decide) rfl ?_
  intro p e s m args below meth c s₁ B hml hv
  obtain ⟨rfl, hP, hK, hX⟩ := hv
  have hx := B.exec
  have hb := B.bytes
  have hr := B.returns
  have hts := atoms_spec (ws := wM_entering) B.pre
  have hta : ∀ w ∈ AW, w.before _ s = true := fun w h => hts w (List.mem_cons_of_mem _ h)
  have hown : s.vm.findClass RM = some m.cls := findClass_of_methodNamed B.named
  have hlocks := B.notSynchronized
  have hl := lv_entry ([.ref (mo 0), .int (nI le)]) (n := 10) (Nat.le_of_ble_eq_true rfl)
  rw [lg_entry_eq]
  generalize (lg_sl ([.ref (mo 0), .int (nI le)]) ++ List.replicate (10 - (lg_sl ([.ref (mo 0), .int (nI le)])).length) Slot.unset).toArray = ls at hl ⊢
  have hl : lv_has ls 10 [(0, .ref (mo 0)), (1, .int (nI le))] := hl
  refine lv_iconst (v := (-1)) hx hb dM_entering_0 (by decide) ?_
  refine lv_istore_n (lv' := [(2, .int (-1)), (0, .ref (mo 0)), (1, .int (nI le))]) hx hb dM_entering_1 rfl hl (by decide) rfl (fun ls hl => ?_)
  refine lv_iconst (v := nI 0) hx hb dM_entering_2 (by decide) ?_
  refine lv_istore_n (lv' := [(3, .int (nI 0)), (2, .int (-1)), (0, .ref (mo 0)), (1, .int (nI le))]) hx hb dM_entering_3 rfl hl (by decide) rfl (fun ls hl => ?_)
  have loop4 : ∀ (n : Nat) (i : Nat) (b : Option Nat) (ls : Array Slot), (i + n = M.co) → (∀ q, b = some q → q < i) → (enR M le i n b = enR M le 0 M.co none) → lv_has ls 10 [(3, .int (nI i)), (2, .int (enc b)), (0, .ref (mo 0)), (1, .int (nI le))] → W p l e (headSpec wM_entering ({ frames := 0, cells := 0, slots := 0, locals := 0 })).room s m ([.ref (mo 0), .int (nI le)] : List Value).toArray below meth c s.heap [] 0 0 (MQ below (rQ (some (.int (enc (enR M le 0 M.co none))))) ([.ref (mo 0), .int (nI le)] : List Value).toArray s 0 0 (fun _ => False)) (F0 m 4 ls []) := by
    intro n
    induction n with
    | zero =>
      intro i b ls hn hb9 hq hl
      refine lv_iload_n hx hb dM_entering_4 rfl (lv_at hl 0 rfl) ?_
      refine lv_aload_n hx hb dM_entering_5 rfl (lv_at hl 2 rfl) ?_
      refine va_get (D := (dC, dI)) (ci := 2) (v := .int (nI M.co)) (C := RM) (T := FM) (N := 19) hx hb hta iM hown hK hP 0 rfl rfl 2 (by decide) (hta _ m_494) (fun _ h9 => h9) rfl dM_entering_6 ?_
      refine ni_ge (tgt := 134) hx hb dM_entering_9 (by decide) (by omega) (by omega) (fun c_1 => ?_) (fun c_1 => ?_)
      · refine lv_iload_n hx hb dM_entering_134 rfl (lv_at hl 1 rfl) ?_
        exact W.iret (v := enc b) hx hb hr (fun t ht hW => ⟨congrArg (fun z => Outcome.returned (some (.int z))) (by rw [← hq]; rfl), ht⟩) (fun q h => nomatch h) dM_entering_135
      · exfalso; omega
    | succ n ih =>
      intro i b ls hn hb9 hq hl
      refine lv_iload_n hx hb dM_entering_4 rfl (lv_at hl 0 rfl) ?_
      refine lv_aload_n hx hb dM_entering_5 rfl (lv_at hl 2 rfl) ?_
      refine va_get (D := (dC, dI)) (ci := 2) (v := .int (nI M.co)) (C := RM) (T := FM) (N := 19) hx hb hta iM hown hK hP 0 rfl rfl 2 (by decide) (hta _ m_494) (fun _ h9 => h9) rfl dM_entering_6 ?_
      refine ni_ge (tgt := 134) hx hb dM_entering_9 (by decide) (by omega) (by omega) (fun c_2 => ?_) (fun c_2 => ?_)
      · exfalso; omega
      · refine lv_aload_n hx hb dM_entering_12 rfl (lv_at hl 2 rfl) ?_
        refine va_get (D := (dC, dI)) (ci := 2) (v := .ref (mo 9)) (C := RM) (T := FM) (N := 19) hx hb hta iM hown hK hP 0 rfl rfl 16 (by decide) (hta _ m_508) (fun _ h9 => h9) rfl dM_entering_13 ?_
        refine lv_bipush (v := nI 13) hx hb dM_entering_16 (by decide) ?_
        refine lv_iload_n hx hb dM_entering_18 rfl (lv_at hl 3 rfl) ?_
        refine lv_imul hx hb dM_entering_19 ?_
        refine st_i (y := nI (13 * le)) (pk_mul _ _) ?_
        refine lv_iload_n hx hb dM_entering_20 rfl (lv_at hl 0 rfl) ?_
        refine lv_iadd hx hb dM_entering_21 ?_
        refine st_i (y := nI ((13 * le) + i)) (nI_add _ _) ?_
        refine na_lald hx hb hK hP 9 8 rfl rfl (i := ((13 * le) + i)) (by omega) (by decide) dM_entering_22 ?_
        refine lv_lstore (lv' := [(4, .long (M.ta ((13 * le) + i))), (3, .int (nI i)), (2, .int (enc b)), (0, .ref (mo 0)), (1, .int (nI le))]) hx hb dM_entering_23 hl (by decide) rfl (fun ls hl => ?_)
        refine lv_lload hx hb dM_entering_25 (lv_at hl 0 rfl) ?_
        refine lv_lconst (v := 0) hx hb dM_entering_27 (by decide) ?_
        refine ll_le (tgt := 128) hx hb dM_entering_28 dM_entering_29 (by decide) (fun h1 => ?_) (fun h1 => ?_)
        · refine lv_iinc (v := nI (i + 1)) (lv' := [(3, .int (nI (i + 1))), (4, .long (M.ta ((13 * le) + i))), (2, .int (enc b)), (0, .ref (mo 0)), (1, .int (nI le))]) hx hb dM_entering_128 hl (k := 1) rfl (nI_add i 1) (by decide) rfl (fun ls hl => ?_)
          refine lv_goto (tgt := 4) hx hb dM_entering_131 (by decide) ?_
          exact ih (i + 1) b ls (by omega) (fun q h => by have := hb9 q h; omega) (by rw [← hq, enR, show enS M le i b = b from if_neg h1]) (lv_sub hl [0, 2, 3, 4] rfl)
        · refine lv_iload_n hx hb dM_entering_32 rfl (lv_at hl 2 rfl) ?_
          refine lv_iconst (v := (-1)) hx hb dM_entering_33 (by decide) ?_
          refine en_ne (o := b) (tgt := 43) hx hb dM_entering_34 (by decide) (fun j h => by have := hb9 j h; omega) (fun o9 ho => ?_) (fun ho => ?_)
          · rw [ho] at hl
            have hl : lv_has ls 10 [(4, .long (M.ta ((13 * le) + i))), (3, .int (nI i)), (2, .int (nI o9)), (0, .ref (mo 0)), (1, .int (nI le))] := hl
            have hj9 := hb9 _ ho
            refine lv_aload_n hx hb dM_entering_43 rfl (lv_at hl 3 rfl) ?_
            refine va_get (D := (dC, dI)) (ci := 2) (v := .ref (mo 9)) (C := RM) (T := FM) (N := 19) hx hb hta iM hown hK hP 0 rfl rfl 16 (by decide) (hta _ m_508) (fun _ h9 => h9) rfl dM_entering_44 ?_
            refine lv_sipush (v := nI 468) hx hb dM_entering_47 (by decide) ?_
            refine lv_iload_n hx hb dM_entering_50 rfl (lv_at hl 1 rfl) ?_
            refine lv_iadd hx hb dM_entering_51 ?_
            refine st_i (y := nI (468 + i)) (nI_add _ _) ?_
            refine na_lald hx hb hK hP 9 8 rfl rfl (i := (468 + i)) (by omega) (by decide) dM_entering_52 ?_
            refine lv_aload_n hx hb dM_entering_53 rfl (lv_at hl 3 rfl) ?_
            refine va_get (D := (dC, dI)) (ci := 2) (v := .ref (mo 9)) (C := RM) (T := FM) (N := 19) hx hb hta iM hown hK hP 0 rfl rfl 16 (by decide) (hta _ m_508) (fun _ h9 => h9) rfl dM_entering_54 ?_
            refine lv_bipush (v := nI 13) hx hb dM_entering_57 (by decide) ?_
            refine lv_iload_n hx hb dM_entering_59 rfl (lv_at hl 4 rfl) ?_
            refine lv_imul hx hb dM_entering_60 ?_
            refine st_i (y := nI (13 * le)) (pk_mul _ _) ?_
            refine lv_iload_n hx hb dM_entering_61 rfl (lv_at hl 2 rfl) ?_
            refine lv_iadd hx hb dM_entering_62 ?_
            refine st_i (y := nI ((13 * le) + o9)) (nI_add _ _) ?_
            refine na_lald hx hb hK hP 9 8 rfl rfl (i := ((13 * le) + o9)) (by omega) (by decide) dM_entering_63 ?_
            refine lv_lmul hx hb dM_entering_64 ?_
            refine lv_lstore (lv' := [(6, .long ((M.ta (468 + i)) * (M.ta ((13 * le) + o9)))), (4, .long (M.ta ((13 * le) + i))), (3, .int (nI i)), (2, .int (nI o9)), (0, .ref (mo 0)), (1, .int (nI le))]) hx hb dM_entering_65 hl (by decide) rfl (fun ls hl => ?_)
            refine lv_iload_n hx hb dM_entering_67 rfl (lv_at hl 3 rfl) ?_
            refine lv_iconst (v := (-1)) hx hb dM_entering_68 (by decide) ?_
            refine lv_icmp_ne (tgt := 76) hx hb dM_entering_69 (by decide) (fun c_3 => ?_) (fun c_3 => ?_)
            · refine lv_aload_n hx hb dM_entering_76 rfl (lv_at hl 4 rfl) ?_
              refine va_get (D := (dC, dI)) (ci := 2) (v := .ref (mo 9)) (C := RM) (T := FM) (N := 19) hx hb hta iM hown hK hP 0 rfl rfl 16 (by decide) (hta _ m_508) (fun _ h9 => h9) rfl dM_entering_77 ?_
              refine lv_sipush (v := nI 468) hx hb dM_entering_80 (by decide) ?_
              refine lv_iload_n hx hb dM_entering_83 rfl (lv_at hl 3 rfl) ?_
              refine lv_iadd hx hb dM_entering_84 ?_
              refine st_i (y := nI (468 + o9)) (nI_add _ _) ?_
              refine na_lald hx hb hK hP 9 8 rfl rfl (i := (468 + o9)) (by omega) (by decide) dM_entering_85 ?_
              refine lv_lload hx hb dM_entering_86 (lv_at hl 1 rfl) ?_
              refine lv_lmul hx hb dM_entering_88 ?_
              refine lv_lstore (lv' := [(8, .long ((M.ta (468 + o9)) * (M.ta ((13 * le) + i)))), (6, .long ((M.ta (468 + i)) * (M.ta ((13 * le) + o9)))), (4, .long (M.ta ((13 * le) + i))), (3, .int (nI i)), (2, .int (nI o9)), (0, .ref (mo 0)), (1, .int (nI le))]) hx hb dM_entering_89 hl (by decide) rfl (fun ls hl => ?_)
              refine lv_lload hx hb dM_entering_91 (lv_at hl 1 rfl) ?_
              refine lv_lload hx hb dM_entering_93 (lv_at hl 0 rfl) ?_
              refine ll_lt (tgt := 122) hx hb dM_entering_95 dM_entering_96 (by decide) (fun h2 => ?_) (fun h2 => ?_)
              · refine lv_iload_n hx hb dM_entering_122 rfl (lv_at hl 3 rfl) ?_
                refine lv_goto (tgt := 127) hx hb dM_entering_123 (by decide) ?_
                refine lv_istore_n (lv' := [(2, .int (nI i)), (8, .long ((M.ta (468 + o9)) * (M.ta ((13 * le) + i)))), (6, .long ((M.ta (468 + i)) * (M.ta ((13 * le) + o9)))), (4, .long (M.ta ((13 * le) + i))), (3, .int (nI i)), (0, .ref (mo 0)), (1, .int (nI le))]) hx hb dM_entering_127 rfl hl (by decide) rfl (fun ls hl => ?_)
                refine lv_iinc (v := nI (i + 1)) (lv' := [(3, .int (nI (i + 1))), (2, .int (nI i)), (8, .long ((M.ta (468 + o9)) * (M.ta ((13 * le) + i)))), (6, .long ((M.ta (468 + i)) * (M.ta ((13 * le) + o9)))), (4, .long (M.ta ((13 * le) + i))), (0, .ref (mo 0)), (1, .int (nI le))]) hx hb dM_entering_128 hl (k := 4) rfl (nI_add i 1) (by decide) rfl (fun ls hl => ?_)
                refine lv_goto (tgt := 4) hx hb dM_entering_131 (by decide) ?_
                exact ih (i + 1) (some i) ls (by omega) (fun j h => by cases h; omega) (by rw [← hq, enR, show enS M le i b = (some i) by (rw [ho]; unfold enS; rw [if_pos h1] <;> first | rfl | (simp [ebR, h2]; done) | (simp [ebR, h2, h3]; done) | (simp [ebR, h2, h3, h4]; done) | (simp [ebR, h2, h3, Nat.not_lt.mpr h4]; done))]) (lv_sub hl [0, 1, 5, 6] rfl)
              · refine lv_lload hx hb dM_entering_99 (lv_at hl 1 rfl) ?_
                refine lv_lload hx hb dM_entering_101 (lv_at hl 0 rfl) ?_
                refine ll_ne (tgt := 126) hx hb dM_entering_103 dM_entering_104 (by decide) (fun h3 => ?_) (fun h3 => ?_)
                · refine lv_iload_n hx hb dM_entering_126 rfl (lv_at hl 4 rfl) ?_
                  refine lv_istore_n (lv' := [(2, .int (nI o9)), (8, .long ((M.ta (468 + o9)) * (M.ta ((13 * le) + i)))), (6, .long ((M.ta (468 + i)) * (M.ta ((13 * le) + o9)))), (4, .long (M.ta ((13 * le) + i))), (3, .int (nI i)), (0, .ref (mo 0)), (1, .int (nI le))]) hx hb dM_entering_127 rfl hl (by decide) rfl (fun ls hl => ?_)
                  refine lv_iinc (v := nI (i + 1)) (lv' := [(3, .int (nI (i + 1))), (2, .int (nI o9)), (8, .long ((M.ta (468 + o9)) * (M.ta ((13 * le) + i)))), (6, .long ((M.ta (468 + i)) * (M.ta ((13 * le) + o9)))), (4, .long (M.ta ((13 * le) + i))), (0, .ref (mo 0)), (1, .int (nI le))]) hx hb dM_entering_128 hl (k := 4) rfl (nI_add i 1) (by decide) rfl (fun ls hl => ?_)
                  refine lv_goto (tgt := 4) hx hb dM_entering_131 (by decide) ?_
                  exact ih (i + 1) (some o9) ls (by omega) (fun j h => by cases h; omega) (by rw [← hq, enR, show enS M le i b = (some o9) by (rw [ho]; unfold enS; rw [if_pos h1] <;> first | rfl | (simp [ebR, h2]; done) | (simp [ebR, h2, h3]; done) | (simp [ebR, h2, h3, h4]; done) | (simp [ebR, h2, h3, Nat.not_lt.mpr h4]; done))]) (lv_sub hl [0, 1, 5, 6] rfl)
                · refine lv_aload_n hx hb dM_entering_107 rfl (lv_at hl 5 rfl) ?_
                  refine va_get (D := (dC, dI)) (ci := 2) (v := .ref (mo 8)) (C := RM) (T := FM) (N := 19) hx hb hta iM hown hK hP 0 rfl rfl 15 (by decide) (hta _ m_507) (fun _ h9 => h9) rfl dM_entering_108 ?_
                  refine lv_iload_n hx hb dM_entering_111 rfl (lv_at hl 3 rfl) ?_
                  refine na_iald hx hb hK hP 8 7 rfl rfl (i := i) (by omega) (by decide) dM_entering_112 ?_
                  refine W.eq (g2 := F0 m 113 ls [.int (nI (M.ou i))]) rfl ?_
                  refine lv_aload_n hx hb dM_entering_113 rfl (lv_at hl 5 rfl) ?_
                  refine va_get (D := (dC, dI)) (ci := 2) (v := .ref (mo 8)) (C := RM) (T := FM) (N := 19) hx hb hta iM hown hK hP 0 rfl rfl 15 (by decide) (hta _ m_507) (fun _ h9 => h9) rfl dM_entering_114 ?_
                  refine lv_iload_n hx hb dM_entering_117 rfl (lv_at hl 4 rfl) ?_
                  refine na_iald hx hb hK hP 8 7 rfl rfl (i := o9) (by omega) (by decide) dM_entering_118 ?_
                  refine W.eq (g2 := F0 m 119 ls [.int (nI (M.ou o9)), .int (nI (M.ou i))]) rfl ?_
                  refine ni_ge (tgt := 126) hx hb dM_entering_119 (by decide) (by have := hou i; omega) (by have := hou o9; omega) (fun h4 => ?_) (fun h4 => ?_)
                  · refine lv_iload_n hx hb dM_entering_126 rfl (lv_at hl 4 rfl) ?_
                    refine lv_istore_n (lv' := [(2, .int (nI o9)), (8, .long ((M.ta (468 + o9)) * (M.ta ((13 * le) + i)))), (6, .long ((M.ta (468 + i)) * (M.ta ((13 * le) + o9)))), (4, .long (M.ta ((13 * le) + i))), (3, .int (nI i)), (0, .ref (mo 0)), (1, .int (nI le))]) hx hb dM_entering_127 rfl hl (by decide) rfl (fun ls hl => ?_)
                    refine lv_iinc (v := nI (i + 1)) (lv' := [(3, .int (nI (i + 1))), (2, .int (nI o9)), (8, .long ((M.ta (468 + o9)) * (M.ta ((13 * le) + i)))), (6, .long ((M.ta (468 + i)) * (M.ta ((13 * le) + o9)))), (4, .long (M.ta ((13 * le) + i))), (0, .ref (mo 0)), (1, .int (nI le))]) hx hb dM_entering_128 hl (k := 4) rfl (nI_add i 1) (by decide) rfl (fun ls hl => ?_)
                    refine lv_goto (tgt := 4) hx hb dM_entering_131 (by decide) ?_
                    exact ih (i + 1) (some o9) ls (by omega) (fun j h => by cases h; omega) (by rw [← hq, enR, show enS M le i b = (some o9) by (rw [ho]; unfold enS; rw [if_pos h1] <;> first | rfl | (simp [ebR, h2]; done) | (simp [ebR, h2, h3]; done) | (simp [ebR, h2, h3, h4]; done) | (simp [ebR, h2, h3, Nat.not_lt.mpr h4]; done))]) (lv_sub hl [0, 1, 5, 6] rfl)
                  · refine lv_iload_n hx hb dM_entering_122 rfl (lv_at hl 3 rfl) ?_
                    refine lv_goto (tgt := 127) hx hb dM_entering_123 (by decide) ?_
                    refine lv_istore_n (lv' := [(2, .int (nI i)), (8, .long ((M.ta (468 + o9)) * (M.ta ((13 * le) + i)))), (6, .long ((M.ta (468 + i)) * (M.ta ((13 * le) + o9)))), (4, .long (M.ta ((13 * le) + i))), (3, .int (nI i)), (0, .ref (mo 0)), (1, .int (nI le))]) hx hb dM_entering_127 rfl hl (by decide) rfl (fun ls hl => ?_)
                    refine lv_iinc (v := nI (i + 1)) (lv' := [(3, .int (nI (i + 1))), (2, .int (nI i)), (8, .long ((M.ta (468 + o9)) * (M.ta ((13 * le) + i)))), (6, .long ((M.ta (468 + i)) * (M.ta ((13 * le) + o9)))), (4, .long (M.ta ((13 * le) + i))), (0, .ref (mo 0)), (1, .int (nI le))]) hx hb dM_entering_128 hl (k := 4) rfl (nI_add i 1) (by decide) rfl (fun ls hl => ?_)
                    refine lv_goto (tgt := 4) hx hb dM_entering_131 (by decide) ?_
                    exact ih (i + 1) (some i) ls (by omega) (fun j h => by cases h; omega) (by rw [← hq, enR, show enS M le i b = (some i) by (rw [ho]; unfold enS; rw [if_pos h1] <;> first | rfl | (simp [ebR, h2]; done) | (simp [ebR, h2, h3]; done) | (simp [ebR, h2, h3, h4]; done) | (simp [ebR, h2, h3, Nat.not_lt.mpr h4]; done))]) (lv_sub hl [0, 1, 5, 6] rfl)
            · exact absurd c_3 (enc_some (by omega))
          · rw [ho] at hl
            have hl : lv_has ls 10 [(4, .long (M.ta ((13 * le) + i))), (3, .int (nI i)), (2, .int (-1)), (0, .ref (mo 0)), (1, .int (nI le))] := hl
            refine lv_ldc2 (v := (-1)) hx hb hown (hta _ m_619) dM_entering_37 ?_
            refine lv_goto (tgt := 65) hx hb dM_entering_40 (by decide) ?_
            refine lv_lstore (lv' := [(6, .long (-1)), (4, .long (M.ta ((13 * le) + i))), (3, .int (nI i)), (2, .int (-1)), (0, .ref (mo 0)), (1, .int (nI le))]) hx hb dM_entering_65 hl (by decide) rfl (fun ls hl => ?_)
            refine lv_iload_n hx hb dM_entering_67 rfl (lv_at hl 3 rfl) ?_
            refine lv_iconst (v := (-1)) hx hb dM_entering_68 (by decide) ?_
            refine lv_icmp_ne (tgt := 76) hx hb dM_entering_69 (by decide) (fun c_4 => ?_) (fun c_4 => ?_)
            · exact absurd rfl c_4
            · refine lv_lconst (v := 0) hx hb dM_entering_72 (by decide) ?_
              refine lv_goto (tgt := 89) hx hb dM_entering_73 (by decide) ?_
              refine lv_lstore (lv' := [(8, .long 0), (6, .long (-1)), (4, .long (M.ta ((13 * le) + i))), (3, .int (nI i)), (2, .int (-1)), (0, .ref (mo 0)), (1, .int (nI le))]) hx hb dM_entering_89 hl (by decide) rfl (fun ls hl => ?_)
              refine lv_lload hx hb dM_entering_91 (lv_at hl 1 rfl) ?_
              refine lv_lload hx hb dM_entering_93 (lv_at hl 0 rfl) ?_
              refine ll_lt (tgt := 122) hx hb dM_entering_95 dM_entering_96 (by decide) (fun h2 => ?_) (fun h2 => ?_)
              · refine lv_iload_n hx hb dM_entering_122 rfl (lv_at hl 3 rfl) ?_
                refine lv_goto (tgt := 127) hx hb dM_entering_123 (by decide) ?_
                refine lv_istore_n (lv' := [(2, .int (nI i)), (8, .long 0), (6, .long (-1)), (4, .long (M.ta ((13 * le) + i))), (3, .int (nI i)), (0, .ref (mo 0)), (1, .int (nI le))]) hx hb dM_entering_127 rfl hl (by decide) rfl (fun ls hl => ?_)
                refine lv_iinc (v := nI (i + 1)) (lv' := [(3, .int (nI (i + 1))), (2, .int (nI i)), (8, .long 0), (6, .long (-1)), (4, .long (M.ta ((13 * le) + i))), (0, .ref (mo 0)), (1, .int (nI le))]) hx hb dM_entering_128 hl (k := 4) rfl (nI_add i 1) (by decide) rfl (fun ls hl => ?_)
                refine lv_goto (tgt := 4) hx hb dM_entering_131 (by decide) ?_
                exact ih (i + 1) (some i) ls (by omega) (fun j h => by cases h; omega) (by rw [← hq, enR, show enS M le i b = (some i) by (rw [ho]; unfold enS; rw [if_pos h1] <;> first | rfl | (simp [ebR, h2]; done) | (simp [ebR, h2, h3]; done) | (simp [ebR, h2, h3, h4]; done) | (simp [ebR, h2, h3, Nat.not_lt.mpr h4]; done))]) (lv_sub hl [0, 1, 5, 6] rfl)
              · exact absurd h2 (by decide)
  exact loop4 M.co 0 none ls (by omega) (fun j h => nomatch h) rfl (lv_sub hl [0, 1, 2, 3] rfl)

set_option maxHeartbeats 4000000 in
set_option maxRecDepth 100000 in
theorem c_M_size (l : Launch) (dC : Nat → ClassId) (dI : Nat → Nat → Nat) (mo : Nat → Nat) (km : Nat → ClassId) (v : Int64)  : Met l yM_size wM_size ({ frames := 0, cells := 0, slots := 0, locals := 0 }) (rPc [.long v] (dC, dI) vwCl ([]) ([]) xT) (rQ (some (.long (szR v)))) 0 0 (fun _ => False) := by
  refine Met.ofW (cc := bM_size) (maxL := 2) (ret := (some .long)) (by decide) rfl ?_
  intro p e s m args below meth c s₁ B hml hv
  obtain ⟨rfl, hP, hK, hX⟩ := hv
  have hx := B.exec
  have hb := B.bytes
  have hr := B.returns
  have hts := atoms_spec (ws := wM_size) B.pre
  have hta : ∀ w ∈ AW, w.before _ s = true := fun w h => hts w (List.mem_cons_of_mem _ h)
  have hown : s.vm.findClass RM = some m.cls := findClass_of_methodNamed B.named
  have hlocks := B.notSynchronized
  have hl := lv_entry ([.long v]) (n := 2) (Nat.le_of_ble_eq_true rfl)
  rw [lg_entry_eq]
  generalize (lg_sl ([.long v]) ++ List.replicate (2 - (lg_sl ([.long v])).length) Slot.unset).toArray = ls at hl ⊢
  have hl : lv_has ls 2 [(0, .long v)] := hl
  refine lv_lload_n hx hb dM_size_0 rfl (lv_at hl 0 rfl) ?_
  refine lv_lconst (v := 0) hx hb dM_size_1 (by decide) ?_
  refine ll_ge (tgt := 11) hx hb dM_size_2 dM_size_3 (by decide) (fun h1 => ?_) (fun h1 => ?_)
  · refine lv_lload_n hx hb dM_size_11 rfl (lv_at hl 0 rfl) ?_
    exact W.lret (v := v) hx hb hr (fun t ht hW => ⟨congrArg (fun z => Outcome.returned (some (.long z))) (by simp only [szR, h1, if_true, if_false]), ht⟩) (fun q h => nomatch h) dM_size_12
  · refine lv_lload_n hx hb dM_size_6 rfl (lv_at hl 0 rfl) ?_
    refine lv_lneg hx hb dM_size_7 ?_
    refine lv_goto (tgt := 12) hx hb dM_size_8 (by decide) ?_
    exact W.lret (v := -v) hx hb hr (fun t ht hW => ⟨congrArg (fun z => Outcome.returned (some (.long z))) (by simp only [szR, h1, if_true, if_false]), ht⟩) (fun q h => nomatch h) dM_size_12

set_option maxHeartbeats 4000000 in
set_option maxRecDepth 100000 in
theorem c_M_fraction (l : Launch) (dC : Nat → ClassId) (dI : Nat → Nat → Nat) (mo : Nat → Nat) (km : Nat → ClassId) (M : MS) (u : Int64) (pt : Int32) (hz : gcZ 100 (szR u) M.dn = true) (hne : ¬ gcL 100 (szR u) M.dn = 0) : Met l yM_fraction wM_fraction ({ frames := 1, cells := 0, slots := 0, locals := 21 }) (rPc [.ref (mo 0), .long u, .int pt] (dC, dI) vwCl (MW mo km M) (MK km) xT) (rQ (some (.long (frR u M.dn pt)))) 0 0 (fun _ => False) := by
  refine Met.ofW (cc := bM_fraction) (maxL := 10) (ret := (some .long)) (by decide) rfl ?_
  intro p e s m args below meth c s₁ B hml hv
  obtain ⟨rfl, hP, hK, hX⟩ := hv
  have hx := B.exec
  have hb := B.bytes
  have hr := B.returns
  have hts := atoms_spec (ws := wM_fraction) B.pre
  have hta : ∀ w ∈ AW, w.before _ s = true := fun w h => hts w (List.mem_cons_of_mem _ h)
  have hown : s.vm.findClass RM = some m.cls := findClass_of_methodNamed B.named
  have hlocks := B.notSynchronized
  have hl := lv_entry ([.ref (mo 0), .long u, .int pt]) (n := 10) (Nat.le_of_ble_eq_true rfl)
  rw [lg_entry_eq]
  generalize (lg_sl ([.ref (mo 0), .long u, .int pt]) ++ List.replicate (10 - (lg_sl ([.ref (mo 0), .long u, .int pt])).length) Slot.unset).toArray = ls at hl ⊢
  have hl : lv_has ls 10 [(0, .ref (mo 0)), (1, .long u), (3, .int pt)] := hl
  refine lv_lload_n hx hb dM_fraction_0 rfl (lv_at hl 1 rfl) ?_
  refine rd_call (va_runS (As := [.long u]) (rest := []) ⟨hx, hb, hml, hown, hta⟩ (c_M_size l dC dI mo km u) (cwS 1 hta (gS m_636 m_637 m_4 m_638) rfl rfl rfl (by decide +kernel) ⟨Nat.le_of_ble_eq_true rfl, Nat.le_of_ble_eq_true rfl⟩) (rd_S xT_ok trivial (hK.sub [] rfl) va_P_nil) rfl rfl hl.1 rfl (lv_room (Nat.le_of_ble_eq_true rfl)) dM_fraction_1 ⟨Nat.zero_le _, Nat.zero_le _⟩) ?_
  refine W.eq (g2 := F0 m 4 ls [.long (szR u)]) rfl ?_
  refine lv_lstore (lv' := [(4, .long (szR u)), (0, .ref (mo 0)), (1, .long u), (3, .int pt)]) hx hb dM_fraction_4 hl (by decide) rfl (fun ls hl => ?_)
  refine lv_aload_n hx hb dM_fraction_6 rfl (lv_at hl 1 rfl) ?_
  refine va_get (D := (dC, dI)) (ci := 2) (v := .long M.dn) (C := RM) (T := FM) (N := 19) hx hb hta iM hown hK hP 0 rfl rfl 13 (by decide) (hta _ m_505) (fun _ h9 => h9) rfl dM_fraction_7 ?_
  refine lv_lstore (lv' := [(6, .long M.dn), (4, .long (szR u)), (0, .ref (mo 0)), (1, .long u), (3, .int pt)]) hx hb dM_fraction_10 hl (by decide) rfl (fun ls hl => ?_)
  have loop12 : ∀ (n : Nat) (x : Int64) (y : Int64) (ls : Array Slot), (gcZ n x y = true) → (gcL n x y = gcL 100 (szR u) M.dn) → lv_has ls 10 [(6, .long y), (4, .long x), (0, .ref (mo 0)), (1, .long u), (3, .int pt)] → W p l e (headSpec wM_fraction ({ frames := 1, cells := 0, slots := 0, locals := 21 })).room s m ([.ref (mo 0), .long u, .int pt] : List Value).toArray below meth c s.heap [] 0 0 (MQ below (rQ (some (.long (frR u M.dn pt)))) ([.ref (mo 0), .long u, .int pt] : List Value).toArray s 0 0 (fun _ => False)) (F0 m 12 ls []) := by
    intro n
    induction n with
    | zero =>
      intro x y ls hz hq hl
      refine lv_lload hx hb dM_fraction_12 (lv_at hl 0 rfl) ?_
      refine lv_lconst (v := 0) hx hb dM_fraction_14 (by decide) ?_
      refine ll_eq (tgt := 37) hx hb dM_fraction_15 dM_fraction_16 (by decide) (fun hc => ?_) (fun hc => ?_)
      · have hx9 : x = gcL 100 (szR u) M.dn := hq
        refine lv_iload_n hx hb dM_fraction_37 rfl (lv_at hl 4 rfl) ?_
        refine lv_if_ne (tgt := 48) hx hb dM_fraction_38 (by decide) (fun h1 => ?_) (fun h1 => ?_)
        · refine lv_aload_n hx hb dM_fraction_48 rfl (lv_at hl 2 rfl) ?_
          refine va_get (D := (dC, dI)) (ci := 2) (v := .long M.dn) (C := RM) (T := FM) (N := 19) hx hb hta iM hown hK hP 0 rfl rfl 13 (by decide) (hta _ m_505) (fun _ h9 => h9) rfl dM_fraction_49 ?_
          refine lv_lload hx hb dM_fraction_52 (lv_at hl 1 rfl) ?_
          refine lv_ldiv hx hb dM_fraction_54 (by rw [hx9]; exact hne) ?_
          exact W.lret (v := M.dn / x) hx hb hr (fun t ht hW => ⟨congrArg (fun z => Outcome.returned (some (.long z))) (by rw [frR, ← hx9]; simp only [h1, if_true, if_false]), ht⟩) (fun q h => nomatch h) dM_fraction_55
        · refine lv_lload_n hx hb dM_fraction_41 rfl (lv_at hl 3 rfl) ?_
          refine lv_lload hx hb dM_fraction_42 (lv_at hl 1 rfl) ?_
          refine lv_ldiv hx hb dM_fraction_44 (by rw [hx9]; exact hne) ?_
          refine lv_goto (tgt := 55) hx hb dM_fraction_45 (by decide) ?_
          exact W.lret (v := u / x) hx hb hr (fun t ht hW => ⟨congrArg (fun z => Outcome.returned (some (.long z))) (by rw [frR, ← hx9]; simp only [h1, if_true, if_false]), ht⟩) (fun q h => nomatch h) dM_fraction_55
      · exact absurd (of_decide_eq_true (show decide (y = 0) = true from hz)) hc
    | succ n ih =>
      intro x y ls hz hq hl
      refine lv_lload hx hb dM_fraction_12 (lv_at hl 0 rfl) ?_
      refine lv_lconst (v := 0) hx hb dM_fraction_14 (by decide) ?_
      refine ll_eq (tgt := 37) hx hb dM_fraction_15 dM_fraction_16 (by decide) (fun hc => ?_) (fun hc => ?_)
      · have hx9 : x = gcL 100 (szR u) M.dn := by rw [← hq, hc, gcL_z]
        refine lv_iload_n hx hb dM_fraction_37 rfl (lv_at hl 4 rfl) ?_
        refine lv_if_ne (tgt := 48) hx hb dM_fraction_38 (by decide) (fun h1 => ?_) (fun h1 => ?_)
        · refine lv_aload_n hx hb dM_fraction_48 rfl (lv_at hl 2 rfl) ?_
          refine va_get (D := (dC, dI)) (ci := 2) (v := .long M.dn) (C := RM) (T := FM) (N := 19) hx hb hta iM hown hK hP 0 rfl rfl 13 (by decide) (hta _ m_505) (fun _ h9 => h9) rfl dM_fraction_49 ?_
          refine lv_lload hx hb dM_fraction_52 (lv_at hl 1 rfl) ?_
          refine lv_ldiv hx hb dM_fraction_54 (by rw [hx9]; exact hne) ?_
          exact W.lret (v := M.dn / x) hx hb hr (fun t ht hW => ⟨congrArg (fun z => Outcome.returned (some (.long z))) (by rw [frR, ← hx9]; simp only [h1, if_true, if_false]), ht⟩) (fun q h => nomatch h) dM_fraction_55
        · refine lv_lload_n hx hb dM_fraction_41 rfl (lv_at hl 3 rfl) ?_
          refine lv_lload hx hb dM_fraction_42 (lv_at hl 1 rfl) ?_
          refine lv_ldiv hx hb dM_fraction_44 (by rw [hx9]; exact hne) ?_
          refine lv_goto (tgt := 55) hx hb dM_fraction_45 (by decide) ?_
          exact W.lret (v := u / x) hx hb hr (fun t ht hW => ⟨congrArg (fun z => Outcome.returned (some (.long z))) (by rw [frR, ← hx9]; simp only [h1, if_true, if_false]), ht⟩) (fun q h => nomatch h) dM_fraction_55
      · refine lv_lload hx hb dM_fraction_19 (lv_at hl 1 rfl) ?_
        refine lv_lload hx hb dM_fraction_21 (lv_at hl 0 rfl) ?_
        refine lv_lrem hx hb dM_fraction_23 (hc) ?_
        refine lv_lstore (lv' := [(8, .long (x - x / y * y)), (6, .long y), (4, .long x), (0, .ref (mo 0)), (1, .long u), (3, .int pt)]) hx hb dM_fraction_24 hl (by decide) rfl (fun ls hl => ?_)
        refine lv_lload hx hb dM_fraction_26 (lv_at hl 1 rfl) ?_
        refine lv_lstore (lv' := [(4, .long y), (8, .long (x - x / y * y)), (6, .long y), (0, .ref (mo 0)), (1, .long u), (3, .int pt)]) hx hb dM_fraction_28 hl (by decide) rfl (fun ls hl => ?_)
        refine lv_lload hx hb dM_fraction_30 (lv_at hl 1 rfl) ?_
        refine lv_lstore (lv' := [(6, .long (x - x / y * y)), (4, .long y), (8, .long (x - x / y * y)), (0, .ref (mo 0)), (1, .long u), (3, .int pt)]) hx hb dM_fraction_32 hl (by decide) rfl (fun ls hl => ?_)
        refine lv_goto (tgt := 12) hx hb dM_fraction_34 (by decide) ?_
        exact ih (y) (x - x / y * y) ls (by rw [gcZ, if_neg hc] at hz; exact hz) (by rw [← hq, gcL, if_neg hc]) (lv_sub hl [0, 1, 3, 4, 5] rfl)
  exact loop12 100 (szR u) M.dn ls hz rfl (lv_sub hl [0, 1, 2, 3, 4] rfl)

set_option maxHeartbeats 4000000 in
set_option maxRecDepth 100000 in
theorem c_M_isPart (l : Launch) (dC : Nat → ClassId) (dI : Nat → Nat → Nat) (mo : Nat → Nat) (km : Nat → ClassId) (M : MS) (pt : Int32)  : Met l yM_isPart wM_isPart ({ frames := 0, cells := 0, slots := 0, locals := 0 }) (rPc [.ref (mo 0), .int pt] (dC, dI) vwCl (MW mo km M) (MK km) xT) (rQ (some (.int (bI (paB pt))))) 0 0 (fun _ => False) := by
  refine Met.ofW (cc := bM_isPart) (maxL := 2) (ret := (some .boolean)) (by decide) rfl ?_
  intro p e s m args below meth c s₁ B hml hv
  obtain ⟨rfl, hP, hK, hX⟩ := hv
  have hx := B.exec
  have hb := B.bytes
  have hr := B.returns
  have hts := atoms_spec (ws := wM_isPart) B.pre
  have hta : ∀ w ∈ AW, w.before _ s = true := fun w h => hts w (List.mem_cons_of_mem _ h)
  have hown : s.vm.findClass RM = some m.cls := findClass_of_methodNamed B.named
  have hlocks := B.notSynchronized
  have hl := lv_entry ([.ref (mo 0), .int pt]) (n := 2) (Nat.le_of_ble_eq_true rfl)
  rw [lg_entry_eq]
  generalize (lg_sl ([.ref (mo 0), .int pt]) ++ List.replicate (2 - (lg_sl ([.ref (mo 0), .int pt])).length) Slot.unset).toArray = ls at hl ⊢
  have hl : lv_has ls 2 [(0, .ref (mo 0)), (1, .int pt)] := hl
  refine lv_iload_n hx hb dM_isPart_0 rfl (lv_at hl 1 rfl) ?_
  refine lv_if_eq (tgt := 9) hx hb dM_isPart_1 (by decide) (fun h1 => ?_) (fun h1 => ?_)
  · refine lv_iconst (v := 1) hx hb dM_isPart_9 (by decide) ?_
    refine lv_goto (tgt := 14) hx hb dM_isPart_10 (by decide) ?_
    exact W.zret (v := 1) hx hb hr (rfl) (fun t ht hW => ⟨congrArg (fun z => Outcome.returned (some (.int z))) (by first | (rw [paB, decide_eq_true h1]; rfl; done) | (rw [paB, decide_eq_false h1, decide_eq_true h2]; rfl; done) | (rw [paB, decide_eq_false h1, decide_eq_false h2]; rfl)), ht⟩) (fun q h => nomatch h) dM_isPart_14
  · refine lv_iload_n hx hb dM_isPart_4 rfl (lv_at hl 1 rfl) ?_
    refine lv_iconst (v := 1) hx hb dM_isPart_5 (by decide) ?_
    refine lv_icmp_ne (tgt := 13) hx hb dM_isPart_6 (by decide) (fun h2 => ?_) (fun h2 => ?_)
    · refine lv_iconst (v := 0) hx hb dM_isPart_13 (by decide) ?_
      exact W.zret (v := 0) hx hb hr (rfl) (fun t ht hW => ⟨congrArg (fun z => Outcome.returned (some (.int z))) (by first | (rw [paB, decide_eq_true h1]; rfl; done) | (rw [paB, decide_eq_false h1, decide_eq_true h2]; rfl; done) | (rw [paB, decide_eq_false h1, decide_eq_false h2]; rfl)), ht⟩) (fun q h => nomatch h) dM_isPart_14
    · refine lv_iconst (v := 1) hx hb dM_isPart_9 (by decide) ?_
      refine lv_goto (tgt := 14) hx hb dM_isPart_10 (by decide) ?_
      exact W.zret (v := 1) hx hb hr (rfl) (fun t ht hW => ⟨congrArg (fun z => Outcome.returned (some (.int z))) (by first | (rw [paB, decide_eq_true h1]; rfl; done) | (rw [paB, decide_eq_false h1, decide_eq_true h2]; rfl; done) | (rw [paB, decide_eq_false h1, decide_eq_false h2]; rfl)), ht⟩) (fun q h => nomatch h) dM_isPart_14

set_option maxHeartbeats 4000000 in
set_option maxRecDepth 100000 in
theorem c_M_amount (l : Launch) (dC : Nat → ClassId) (dI : Nat → Nat → Nat) (mo : Nat → Nat) (km : Nat → ClassId) (M : MS) (q : Nat) (hpl : ∀ v k, M.pl v = some k → k < 12) (hq9 : q < 37) : Met l yM_amount wM_amount ({ frames := 0, cells := 0, slots := 0, locals := 0 }) (rPc [.ref (mo 0), .int (nI q)] (dC, dI) vwCl (MW mo km M) (MK km) xT) (rQ (some (.long (amR M q)))) 0 0 (fun _ => False) := by
  refine Met.ofW (cc := bM_amount) (maxL := 2) (ret := (some .long)) (by decide) rfl ?_
  intro p e s m args below meth c s₁ B hml hv
  obtain ⟨rfl, hP, hK, hX⟩ := hv
  have hx := B.exec
  have hb := B.bytes
  have hr := B.returns
  have hts := atoms_spec (ws := wM_amount) B.pre
  have hta : ∀ w ∈ AW, w.before _ s = true := fun w h => hts w (List.mem_cons_of_mem _ h)
  have hown : s.vm.findClass RM = some m.cls := findClass_of_methodNamed B.named
  have hlocks := B.notSynchronized
  have hl := lv_entry ([.ref (mo 0), .int (nI q)]) (n := 2) (Nat.le_of_ble_eq_true rfl)
  rw [lg_entry_eq]
  generalize (lg_sl ([.ref (mo 0), .int (nI q)]) ++ List.replicate (2 - (lg_sl ([.ref (mo 0), .int (nI q)])).length) Slot.unset).toArray = ls at hl ⊢
  have hl : lv_has ls 2 [(0, .ref (mo 0)), (1, .int (nI q))] := hl
  refine lv_aload_n hx hb dM_amount_0 rfl (lv_at hl 0 rfl) ?_
  refine va_get (D := (dC, dI)) (ci := 2) (v := .ref (mo 7)) (C := RM) (T := FM) (N := 19) hx hb hta iM hown hK hP 0 rfl rfl 14 (by decide) (hta _ m_506) (fun _ h9 => h9) rfl dM_amount_1 ?_
  refine lv_iload_n hx hb dM_amount_4 rfl (lv_at hl 1 rfl) ?_
  refine na_iald hx hb hK hP 7 6 rfl rfl (i := q) (by omega) (by decide) dM_amount_5 ?_
  refine W.eq (g2 := F0 m 6 ls [.int (enc (M.pl q))]) rfl ?_
  refine lv_iconst (v := (-1)) hx hb dM_amount_6 (by decide) ?_
  refine en_ne (o := (M.pl q)) (tgt := 25) hx hb dM_amount_7 (by decide) (fun j h => by have := hpl _ _ h; omega) (fun j_1 ho => ?_) (fun ho => ?_)
  · have hj9 := hpl _ _ ho
    refine lv_lconst (v := 0) hx hb dM_amount_25 (by decide) ?_
    exact W.lret (v := 0) hx hb hr (fun t ht hW => ⟨congrArg (fun z => Outcome.returned (some (.long z))) (by simp [amR, ho]), ht⟩) (fun q h => nomatch h) dM_amount_26
  · refine lv_aload_n hx hb dM_amount_10 rfl (lv_at hl 0 rfl) ?_
    refine va_get (D := (dC, dI)) (ci := 2) (v := .ref (mo 9)) (C := RM) (T := FM) (N := 19) hx hb hta iM hown hK hP 0 rfl rfl 16 (by decide) (hta _ m_508) (fun _ h9 => h9) rfl dM_amount_11 ?_
    refine lv_bipush (v := nI 13) hx hb dM_amount_14 (by decide) ?_
    refine lv_iload_n hx hb dM_amount_16 rfl (lv_at hl 1 rfl) ?_
    refine lv_imul hx hb dM_amount_17 ?_
    refine st_i (y := nI (13 * q)) (pk_mul _ _) ?_
    refine lv_bipush (v := nI 12) hx hb dM_amount_18 (by decide) ?_
    refine lv_iadd hx hb dM_amount_20 ?_
    refine st_i (y := nI ((13 * q) + 12)) (nI_add _ _) ?_
    refine na_lald hx hb hK hP 9 8 rfl rfl (i := ((13 * q) + 12)) (by omega) (by decide) dM_amount_21 ?_
    refine lv_goto (tgt := 26) hx hb dM_amount_22 (by decide) ?_
    exact W.lret (v := M.ta ((13 * q) + 12)) hx hb hr (fun t ht hW => ⟨congrArg (fun z => Outcome.returned (some (.long z))) (by simp [amR, ho]), ht⟩) (fun q h => nomatch h) dM_amount_26

set_option maxHeartbeats 4000000 in
set_option maxRecDepth 100000 in
theorem c_M_price (l : Launch) (dC : Nat → ClassId) (dI : Nat → Nat → Nat) (mo : Nat → Nat) (km : Nat → ClassId) (M : MS) (q : Nat) (hpl : ∀ v k, M.pl v = some k → k < 12) (hq9 : q < 37) : Met l yM_price wM_price ({ frames := 0, cells := 0, slots := 0, locals := 0 }) (rPc [.ref (mo 0), .int (nI q)] (dC, dI) vwCl (MW mo km M) (MK km) xT) (rQ (some (.long (prR M q)))) 0 0 (fun _ => False) := by
  refine Met.ofW (cc := bM_price) (maxL := 2) (ret := (some .long)) (by decide) rfl ?_
  intro p e s m args below meth c s₁ B hml hv
  obtain ⟨rfl, hP, hK, hX⟩ := hv
  have hx := B.exec
  have hb := B.bytes
  have hr := B.returns
  have hts := atoms_spec (ws := wM_price) B.pre
  have hta : ∀ w ∈ AW, w.before _ s = true := fun w h => hts w (List.mem_cons_of_mem _ h)
  have hown : s.vm.findClass RM = some m.cls := findClass_of_methodNamed B.named
  have hlocks := B.notSynchronized
  have hl := lv_entry ([.ref (mo 0), .int (nI q)]) (n := 2) (Nat.le_of_ble_eq_true rfl)
  rw [lg_entry_eq]
  generalize (lg_sl ([.ref (mo 0), .int (nI q)]) ++ List.replicate (2 - (lg_sl ([.ref (mo 0), .int (nI q)])).length) Slot.unset).toArray = ls at hl ⊢
  have hl : lv_has ls 2 [(0, .ref (mo 0)), (1, .int (nI q))] := hl
  refine lv_aload_n hx hb dM_price_0 rfl (lv_at hl 0 rfl) ?_
  refine va_get (D := (dC, dI)) (ci := 2) (v := .ref (mo 7)) (C := RM) (T := FM) (N := 19) hx hb hta iM hown hK hP 0 rfl rfl 14 (by decide) (hta _ m_506) (fun _ h9 => h9) rfl dM_price_1 ?_
  refine lv_iload_n hx hb dM_price_4 rfl (lv_at hl 1 rfl) ?_
  refine na_iald hx hb hK hP 7 6 rfl rfl (i := q) (by omega) (by decide) dM_price_5 ?_
  refine W.eq (g2 := F0 m 6 ls [.int (enc (M.pl q))]) rfl ?_
  refine lv_iconst (v := (-1)) hx hb dM_price_6 (by decide) ?_
  refine en_ne (o := (M.pl q)) (tgt := 14) hx hb dM_price_7 (by decide) (fun j h => by have := hpl _ _ h; omega) (fun k9 ho => ?_) (fun ho => ?_)
  · have hj9 := hpl _ _ ho
    refine lv_aload_n hx hb dM_price_14 rfl (lv_at hl 0 rfl) ?_
    refine va_get (D := (dC, dI)) (ci := 2) (v := .ref (mo 9)) (C := RM) (T := FM) (N := 19) hx hb hta iM hown hK hP 0 rfl rfl 16 (by decide) (hta _ m_508) (fun _ h9 => h9) rfl dM_price_15 ?_
    refine lv_sipush (v := nI 468) hx hb dM_price_18 (by decide) ?_
    refine lv_aload_n hx hb dM_price_21 rfl (lv_at hl 0 rfl) ?_
    refine va_get (D := (dC, dI)) (ci := 2) (v := .ref (mo 7)) (C := RM) (T := FM) (N := 19) hx hb hta iM hown hK hP 0 rfl rfl 14 (by decide) (hta _ m_506) (fun _ h9 => h9) rfl dM_price_22 ?_
    refine lv_iload_n hx hb dM_price_25 rfl (lv_at hl 1 rfl) ?_
    refine na_iald hx hb hK hP 7 6 rfl rfl (i := q) (by omega) (by decide) dM_price_26 ?_
    refine W.eq (g2 := F0 m 27 ls [.int (enc (M.pl q)), .int (nI 468), .ref (mo 9)]) rfl ?_
    refine st_i (y := nI k9) (by rw [ho]; rfl) ?_
    refine lv_iadd hx hb dM_price_27 ?_
    refine st_i (y := nI (468 + k9)) (nI_add _ _) ?_
    refine na_lald hx hb hK hP 9 8 rfl rfl (i := (468 + k9)) (by omega) (by decide) dM_price_28 ?_
    exact W.lret (v := M.ta (468 + k9)) hx hb hr (fun t ht hW => ⟨congrArg (fun z => Outcome.returned (some (.long z))) (by simp [prR, ho]), ht⟩) (fun q h => nomatch h) dM_price_29
  · refine lv_lconst (v := 0) hx hb dM_price_10 (by decide) ?_
    refine lv_goto (tgt := 29) hx hb dM_price_11 (by decide) ?_
    exact W.lret (v := 0) hx hb hr (fun t ht hW => ⟨congrArg (fun z => Outcome.returned (some (.long z))) (by simp [prR, ho]), ht⟩) (fun q h => nomatch h) dM_price_29

set_option maxHeartbeats 4000000 in
set_option maxRecDepth 100000 in
theorem c_M_weight (l : Launch) (dC : Nat → ClassId) (dI : Nat → Nat → Nat) (mo : Nat → Nat) (km : Nat → ClassId) (M : MS) (q g : Nat) (hpl : ∀ v k, M.pl v = some k → k < 12) (hq9 : q < 37) (hg : M.ag = some g) (hg9 : g < 36) : Met l yM_weight wM_weight ({ frames := 0, cells := 0, slots := 0, locals := 0 }) (rPc [.ref (mo 0), .int (nI q)] (dC, dI) vwCl (MW mo km M) (MK km) xT) (rQ (some (.long (weR M g q)))) 0 0 (fun _ => False) := by
  refine Met.ofW (cc := bM_weight) (maxL := 2) (ret := (some .long)) (by decide) rfl ?_
  intro p e s m args below meth c s₁ B hml hv
  obtain ⟨rfl, hP, hK, hX⟩ := hv
  have hx := B.exec
  have hb := B.bytes
  have hr := B.returns
  have hts := atoms_spec (ws := wM_weight) B.pre
  have hta : ∀ w ∈ AW, w.before _ s = true := fun w h => hts w (List.mem_cons_of_mem _ h)
  have hown : s.vm.findClass RM = some m.cls := findClass_of_methodNamed B.named
  have hlocks := B.notSynchronized
  have hl := lv_entry ([.ref (mo 0), .int (nI q)]) (n := 2) (Nat.le_of_ble_eq_true rfl)
  rw [lg_entry_eq]
  generalize (lg_sl ([.ref (mo 0), .int (nI q)]) ++ List.replicate (2 - (lg_sl ([.ref (mo 0), .int (nI q)])).length) Slot.unset).toArray = ls at hl ⊢
  have hl : lv_has ls 2 [(0, .ref (mo 0)), (1, .int (nI q))] := hl
  refine lv_iload_n hx hb dM_weight_0 rfl (lv_at hl 1 rfl) ?_
  refine lv_aload_n hx hb dM_weight_1 rfl (lv_at hl 0 rfl) ?_
  refine va_get (D := (dC, dI)) (ci := 2) (v := .int (enc M.ag)) (C := RM) (T := FM) (N := 19) hx hb hta iM hown hK hP 0 rfl rfl 18 (by decide) (hta _ m_510) (fun _ h9 => h9) rfl dM_weight_2 ?_
  refine st_i (y := nI g) (by rw [hg]; rfl) ?_
  refine ni_ne (tgt := 15) hx hb dM_weight_5 (by decide) (by omega) (by omega) (fun h1 => ?_) (fun h1 => ?_)
  · refine lv_aload_n hx hb dM_weight_15 rfl (lv_at hl 0 rfl) ?_
    refine va_get (D := (dC, dI)) (ci := 2) (v := .ref (mo 7)) (C := RM) (T := FM) (N := 19) hx hb hta iM hown hK hP 0 rfl rfl 14 (by decide) (hta _ m_506) (fun _ h9 => h9) rfl dM_weight_16 ?_
    refine lv_iload_n hx hb dM_weight_19 rfl (lv_at hl 1 rfl) ?_
    refine na_iald hx hb hK hP 7 6 rfl rfl (i := q) (by omega) (by decide) dM_weight_20 ?_
    refine W.eq (g2 := F0 m 21 ls [.int (enc (M.pl q))]) rfl ?_
    refine lv_iconst (v := (-1)) hx hb dM_weight_21 (by decide) ?_
    refine en_ne (o := (M.pl q)) (tgt := 29) hx hb dM_weight_22 (by decide) (fun j h => by have := hpl _ _ h; omega) (fun k9 ho => ?_) (fun ho => ?_)
    · have hj9 := hpl _ _ ho
      refine lv_aload_n hx hb dM_weight_29 rfl (lv_at hl 0 rfl) ?_
      refine va_get (D := (dC, dI)) (ci := 2) (v := .ref (mo 9)) (C := RM) (T := FM) (N := 19) hx hb hta iM hown hK hP 0 rfl rfl 16 (by decide) (hta _ m_508) (fun _ h9 => h9) rfl dM_weight_30 ?_
      refine lv_bipush (v := nI 13) hx hb dM_weight_33 (by decide) ?_
      refine lv_aload_n hx hb dM_weight_35 rfl (lv_at hl 0 rfl) ?_
      refine va_get (D := (dC, dI)) (ci := 2) (v := .int (enc M.ag)) (C := RM) (T := FM) (N := 19) hx hb hta iM hown hK hP 0 rfl rfl 18 (by decide) (hta _ m_510) (fun _ h9 => h9) rfl dM_weight_36 ?_
      refine st_i (y := nI g) (by rw [hg]; rfl) ?_
      refine lv_imul hx hb dM_weight_39 ?_
      refine st_i (y := nI (13 * g)) (pk_mul _ _) ?_
      refine lv_aload_n hx hb dM_weight_40 rfl (lv_at hl 0 rfl) ?_
      refine va_get (D := (dC, dI)) (ci := 2) (v := .ref (mo 7)) (C := RM) (T := FM) (N := 19) hx hb hta iM hown hK hP 0 rfl rfl 14 (by decide) (hta _ m_506) (fun _ h9 => h9) rfl dM_weight_41 ?_
      refine lv_iload_n hx hb dM_weight_44 rfl (lv_at hl 1 rfl) ?_
      refine na_iald hx hb hK hP 7 6 rfl rfl (i := q) (by omega) (by decide) dM_weight_45 ?_
      refine W.eq (g2 := F0 m 46 ls [.int (enc (M.pl q)), .int (nI (13 * g)), .ref (mo 9)]) rfl ?_
      refine st_i (y := nI k9) (by rw [ho]; rfl) ?_
      refine lv_iadd hx hb dM_weight_46 ?_
      refine st_i (y := nI ((13 * g) + k9)) (nI_add _ _) ?_
      refine na_lald hx hb hK hP 9 8 rfl rfl (i := ((13 * g) + k9)) (by omega) (by decide) dM_weight_47 ?_
      refine lv_lneg hx hb dM_weight_48 ?_
      exact W.lret (v := -(M.ta ((13 * g) + k9))) hx hb hr (fun t ht hW => ⟨congrArg (fun z => Outcome.returned (some (.long z))) (by first | (simp [weR, h1]; done) | (rw [weR, if_neg h1, ho])), ht⟩) (fun q h => nomatch h) dM_weight_49
    · refine lv_lconst (v := 0) hx hb dM_weight_25 (by decide) ?_
      refine lv_goto (tgt := 49) hx hb dM_weight_26 (by decide) ?_
      exact W.lret (v := 0) hx hb hr (fun t ht hW => ⟨congrArg (fun z => Outcome.returned (some (.long z))) (by first | (simp [weR, h1]; done) | (rw [weR, if_neg h1, ho])), ht⟩) (fun q h => nomatch h) dM_weight_49
  · refine lv_aload_n hx hb dM_weight_8 rfl (lv_at hl 0 rfl) ?_
    refine va_get (D := (dC, dI)) (ci := 2) (v := .long M.dn) (C := RM) (T := FM) (N := 19) hx hb hta iM hown hK hP 0 rfl rfl 13 (by decide) (hta _ m_505) (fun _ h9 => h9) rfl dM_weight_9 ?_
    refine lv_goto (tgt := 49) hx hb dM_weight_12 (by decide) ?_
    exact W.lret (v := M.dn) hx hb hr (fun t ht hW => ⟨congrArg (fun z => Outcome.returned (some (.long z))) (by first | (simp [weR, h1]; done) | (rw [weR, if_neg h1, ho])), ht⟩) (fun q h => nomatch h) dM_weight_49
