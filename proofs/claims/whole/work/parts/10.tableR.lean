set_option maxHeartbeats 4000000 in
set_option maxRecDepth 100000 in
theorem c_T_cell (l : Launch) (dC : Nat → ClassId) (dI : Nat → Nat → Nat) (ad : Nat → Nat) (k : Nat → ClassId) (T : TS) (i j : Nat) (hi : i * 13 + j < 325) : Met l yT_cell wT_cell ({ frames := 0, cells := 0, slots := 0, locals := 0 }) (rPc [.ref (ad 0), .int (nI i), .int (nI j)] (dC, dI) vwCl (TW ad k T) (TK k) xT) (rQ (some (.long (T.C (i * 13 + j))))) 0 0 (fun _ => False) := by
  refine Met.ofW (cc := bT_cell) (maxL := 3) (ret := (some .long)) (by decide) rfl ?_
  intro p e s m args below meth c s₁ B hml hv
  obtain ⟨rfl, hP, hK, hX⟩ := hv
  have hx := B.exec
  have hb := B.bytes
  have hr := B.returns
  have hts := atoms_spec (ws := wT_cell) B.pre
  have hta : ∀ w ∈ AW, w.before _ s = true := fun w h => hts w (List.mem_cons_of_mem _ h)
  have hown : s.vm.findClass RT = some m.cls := findClass_of_methodNamed B.named
  have hlocks := B.notSynchronized
  have hl := lv_entry ([.ref (ad 0), .int (nI i), .int (nI j)]) (n := 3) (Nat.le_of_ble_eq_true rfl)
  rw [lg_entry_eq]
  generalize (lg_sl ([.ref (ad 0), .int (nI i), .int (nI j)]) ++ List.replicate (3 - (lg_sl ([.ref (ad 0), .int (nI i), .int (nI j)])).length) Slot.unset).toArray = ls at hl ⊢
  have hl : lv_has ls 3 [(0, .ref (ad 0)), (1, .int (nI i)), (2, .int (nI j))] := hl
  refine lv_aload_n hx hb dT_cell_0 rfl (lv_at hl 0 rfl) ?_
  refine va_get (D := (dC, dI)) (ci := 0) (v := .ref (ad 1)) (C := RT) (T := FT) (N := 8) hx hb hta iT hown hK hP 0 rfl rfl 0 (by decide) (hta _ m_26) (fun _ h9 => h9) rfl dT_cell_1 ?_
  refine lv_iload_n hx hb dT_cell_4 rfl (lv_at hl 1 rfl) ?_
  refine lv_bipush (v := nI 13) hx hb dT_cell_5 (by decide) ?_
  refine lv_imul hx hb dT_cell_7 ?_
  refine st_i (y := nI (i * 13)) (pk_mul _ _) ?_
  refine lv_iload_n hx hb dT_cell_8 rfl (lv_at hl 2 rfl) ?_
  refine lv_iadd hx hb dT_cell_9 ?_
  refine st_i (y := nI ((i * 13) + j)) (nI_add _ _) ?_
  refine na_lald hx hb hK hP 1 0 rfl rfl (i := ((i * 13) + j)) (by omega) (by decide) dT_cell_10 ?_
  exact W.lret (v := T.C ((i * 13) + j)) hx hb hr (fun t ht hW => ⟨rfl, ht⟩) (fun q h => nomatch h) dT_cell_11

set_option maxHeartbeats 4000000 in
set_option maxRecDepth 100000 in
theorem c_T_fits (l : Launch) (dC : Nat → ClassId) (dI : Nat → Nat → Nat) (ad : Nat → Nat) (k : Nat → ClassId) (v : Int64)  : Met l yT_fits wT_fits ({ frames := 0, cells := 0, slots := 0, locals := 0 }) (rPc [.long v] (dC, dI) vwCl ([]) ([]) xT) (rQ (some (.int (bI (fits9 v))))) 0 0 (fun _ => False) := by
  refine Met.ofW (cc := bT_fits) (maxL := 2) (ret := (some .boolean)) (by decide) rfl ?_
  intro p e s m args below meth c s₁ B hml hv
  obtain ⟨rfl, hP, hK, hX⟩ := hv
  have hx := B.exec
  have hb := B.bytes
  have hr := B.returns
  have hts := atoms_spec (ws := wT_fits) B.pre
  have hta : ∀ w ∈ AW, w.before _ s = true := fun w h => hts w (List.mem_cons_of_mem _ h)
  have hown : s.vm.findClass RT = some m.cls := findClass_of_methodNamed B.named
  have hlocks := B.notSynchronized
  have hl := lv_entry ([.long v]) (n := 2) (Nat.le_of_ble_eq_true rfl)
  rw [lg_entry_eq]
  generalize (lg_sl ([.long v]) ++ List.replicate (2 - (lg_sl ([.long v])).length) Slot.unset).toArray = ls at hl ⊢
  have hl : lv_has ls 2 [(0, .long v)] := hl
  refine lv_lload_n hx hb dT_fits_0 rfl (lv_at hl 0 rfl) ?_
  refine lv_ldc2 (v := (-1000000000)) hx hb hown (hta _ m_353) dT_fits_1 ?_
  refine ll_lt (tgt := 20) hx hb dT_fits_4 dT_fits_5 (by decide) (fun h1 => ?_) (fun h1 => ?_)
  · refine lv_iconst (v := 0) hx hb dT_fits_20 (by decide) ?_
    exact W.zret (v := 0) hx hb hr (rfl) (fun t ht hW => ⟨congrArg (fun z => Outcome.returned (some (.int z))) (by simp_all [fits9, bI]), ht⟩) (fun q h => nomatch h) dT_fits_21
  · refine lv_lload_n hx hb dT_fits_8 rfl (lv_at hl 0 rfl) ?_
    refine lv_ldc2 (v := 1000000000) hx hb hown (hta _ m_354) dT_fits_9 ?_
    refine ll_gt (tgt := 20) hx hb dT_fits_12 dT_fits_13 (by decide) (fun h2 => ?_) (fun h2 => ?_)
    · refine lv_iconst (v := 0) hx hb dT_fits_20 (by decide) ?_
      exact W.zret (v := 0) hx hb hr (rfl) (fun t ht hW => ⟨congrArg (fun z => Outcome.returned (some (.int z))) (by simp_all [fits9, bI]), ht⟩) (fun q h => nomatch h) dT_fits_21
    · refine lv_iconst (v := 1) hx hb dT_fits_16 (by decide) ?_
      refine lv_goto (tgt := 21) hx hb dT_fits_17 (by decide) ?_
      exact W.zret (v := 1) hx hb hr (rfl) (fun t ht hW => ⟨congrArg (fun z => Outcome.returned (some (.int z))) (by simp_all [fits9, bI]), ht⟩) (fun q h => nomatch h) dT_fits_21

set_option maxHeartbeats 4000000 in
set_option maxRecDepth 100000 in
theorem c_T_placeInside (l : Launch) (dC : Nat → ClassId) (dI : Nat → Nat → Nat) (ad : Nat → Nat) (k : Nat → ClassId) (T : TS) (v : Int32) (hh : T.h ≤ 24) : Met l yT_placeInside wT_placeInside ({ frames := 0, cells := 0, slots := 0, locals := 0 }) (rPc [.ref (ad 0), .int v] (dC, dI) vwCl (TW ad k T) (TK k) xT) (rQ (some (.int (enc (fnd T.I v 1 T.h))))) 0 0 (fun _ => False) := by
  refine Met.ofW (cc := bT_placeInside) (maxL := 3) (ret := (some .int)) (by decide) rfl ?_
  intro p e s m args below meth c s₁ B hml hv
  obtain ⟨rfl, hP, hK, hX⟩ := hv
  have hx := B.exec
  have hb := B.bytes
  have hr := B.returns
  have hts := atoms_spec (ws := wT_placeInside) B.pre
  have hta : ∀ w ∈ AW, w.before _ s = true := fun w h => hts w (List.mem_cons_of_mem _ h)
  have hown : s.vm.findClass RT = some m.cls := findClass_of_methodNamed B.named
  have hlocks := B.notSynchronized
  have hl := lv_entry ([.ref (ad 0), .int v]) (n := 3) (Nat.le_of_ble_eq_true rfl)
  rw [lg_entry_eq]
  generalize (lg_sl ([.ref (ad 0), .int v]) ++ List.replicate (3 - (lg_sl ([.ref (ad 0), .int v])).length) Slot.unset).toArray = ls at hl ⊢
  have hl : lv_has ls 3 [(0, .ref (ad 0)), (1, .int v)] := hl
  refine lv_iconst (v := nI 1) hx hb dT_placeInside_0 (by decide) ?_
  refine lv_istore_n (lv' := [(2, .int (nI 1)), (0, .ref (ad 0)), (1, .int v)]) hx hb dT_placeInside_1 rfl hl (by decide) rfl (fun ls hl => ?_)
  have loop2 : ∀ (n : Nat) (i : Nat) (ls : Array Slot), (i + n = T.h + 1) → (1 ≤ i) → (fnd T.I v i n = fnd T.I v 1 T.h) → lv_has ls 3 [(2, .int (nI i)), (0, .ref (ad 0)), (1, .int v)] → W p l e (headSpec wT_placeInside ({ frames := 0, cells := 0, slots := 0, locals := 0 })).room s m ([.ref (ad 0), .int v] : List Value).toArray below meth c s.heap [] 0 0 (MQ below (rQ (some (.int (enc (fnd T.I v 1 T.h))))) ([.ref (ad 0), .int v] : List Value).toArray s 0 0 (fun _ => False)) (F0 m 2 ls []) := by
    intro n
    induction n with
    | zero =>
      intro i ls hn hi hq hl
      refine lv_iload_n hx hb dT_placeInside_2 rfl (lv_at hl 0 rfl) ?_
      refine lv_aload_n hx hb dT_placeInside_3 rfl (lv_at hl 1 rfl) ?_
      refine va_get (D := (dC, dI)) (ci := 0) (v := .int (nI T.h)) (C := RT) (T := FT) (N := 8) hx hb hta iT hown hK hP 0 rfl rfl 6 (by decide) (hta _ m_34) (fun _ h9 => h9) rfl dT_placeInside_4 ?_
      refine ni_gt (tgt := 28) hx hb dT_placeInside_7 (by decide) (by omega) (by omega) (fun c_1 => ?_) (fun c_1 => ?_)
      · refine lv_iconst (v := (-1)) hx hb dT_placeInside_28 (by decide) ?_
        exact W.iret (v := (-1)) hx hb hr (fun t ht hW => ⟨congrArg (fun z => Outcome.returned (some (.int z))) (by rw [← hq]; rfl), ht⟩) (fun q h => nomatch h) dT_placeInside_29
      · exfalso; omega
    | succ n ih =>
      intro i ls hn hi hq hl
      refine lv_iload_n hx hb dT_placeInside_2 rfl (lv_at hl 0 rfl) ?_
      refine lv_aload_n hx hb dT_placeInside_3 rfl (lv_at hl 1 rfl) ?_
      refine va_get (D := (dC, dI)) (ci := 0) (v := .int (nI T.h)) (C := RT) (T := FT) (N := 8) hx hb hta iT hown hK hP 0 rfl rfl 6 (by decide) (hta _ m_34) (fun _ h9 => h9) rfl dT_placeInside_4 ?_
      refine ni_gt (tgt := 28) hx hb dT_placeInside_7 (by decide) (by omega) (by omega) (fun c_2 => ?_) (fun c_2 => ?_)
      · exfalso; omega
      · refine lv_aload_n hx hb dT_placeInside_10 rfl (lv_at hl 1 rfl) ?_
        refine va_get (D := (dC, dI)) (ci := 0) (v := .ref (ad 2)) (C := RT) (T := FT) (N := 8) hx hb hta iT hown hK hP 0 rfl rfl 1 (by decide) (hta _ m_27) (fun _ h9 => h9) rfl dT_placeInside_11 ?_
        refine lv_iload_n hx hb dT_placeInside_14 rfl (lv_at hl 0 rfl) ?_
        refine na_iald hx hb hK hP 2 1 rfl rfl (i := i) (by omega) (by decide) dT_placeInside_15 ?_
        refine lv_iload_n hx hb dT_placeInside_16 rfl (lv_at hl 2 rfl) ?_
        refine lv_icmp_ne (tgt := 22) hx hb dT_placeInside_17 (by decide) (fun hc => ?_) (fun hc => ?_)
        · refine lv_iinc (v := nI (i + 1)) (lv' := [(2, .int (nI (i + 1))), (0, .ref (ad 0)), (1, .int v)]) hx hb dT_placeInside_22 hl (k := 0) rfl (nI_add i 1) (by decide) rfl (fun ls hl => ?_)
          refine lv_goto (tgt := 2) hx hb dT_placeInside_25 (by decide) ?_
          exact ih (i + 1) ls (by omega) (by omega) (by rw [← hq]; simp [fnd, hc]) (lv_sub hl [0, 1, 2] rfl)
        · refine lv_iload_n hx hb dT_placeInside_20 rfl (lv_at hl 0 rfl) ?_
          exact W.iret (v := nI i) hx hb hr (fun t ht hW => ⟨congrArg (fun z => Outcome.returned (some (.int z))) (by rw [← hq]; simp [fnd, hc, enc]), ht⟩) (fun q h => nomatch h) dT_placeInside_21
  exact loop2 T.h 1 ls (by omega) (by omega) rfl (lv_sub hl [0, 1, 2] rfl)

set_option maxHeartbeats 4000000 in
set_option maxRecDepth 100000 in
theorem c_T_placeOutside (l : Launch) (dC : Nat → ClassId) (dI : Nat → Nat → Nat) (ad : Nat → Nat) (k : Nat → ClassId) (T : TS) (v : Int32) (hw : T.w ≤ 12) : Met l yT_placeOutside wT_placeOutside ({ frames := 0, cells := 0, slots := 0, locals := 0 }) (rPc [.ref (ad 0), .int v] (dC, dI) vwCl (TW ad k T) (TK k) xT) (rQ (some (.int (enc (fnd T.O v 1 T.w))))) 0 0 (fun _ => False) := by
  refine Met.ofW (cc := bT_placeOutside) (maxL := 3) (ret := (some .int)) (by decide) rfl ?_
  intro p e s m args below meth c s₁ B hml hv
  obtain ⟨rfl, hP, hK, hX⟩ := hv
  have hx := B.exec
  have hb := B.bytes
  have hr := B.returns
  have hts := atoms_spec (ws := wT_placeOutside) B.pre
  have hta : ∀ w ∈ AW, w.before _ s = true := fun w h => hts w (List.mem_cons_of_mem _ h)
  have hown : s.vm.findClass RT = some m.cls := findClass_of_methodNamed B.named
  have hlocks := B.notSynchronized
  have hl := lv_entry ([.ref (ad 0), .int v]) (n := 3) (Nat.le_of_ble_eq_true rfl)
  rw [lg_entry_eq]
  generalize (lg_sl ([.ref (ad 0), .int v]) ++ List.replicate (3 - (lg_sl ([.ref (ad 0), .int v])).length) Slot.unset).toArray = ls at hl ⊢
  have hl : lv_has ls 3 [(0, .ref (ad 0)), (1, .int v)] := hl
  refine lv_iconst (v := nI 1) hx hb dT_placeOutside_0 (by decide) ?_
  refine lv_istore_n (lv' := [(2, .int (nI 1)), (0, .ref (ad 0)), (1, .int v)]) hx hb dT_placeOutside_1 rfl hl (by decide) rfl (fun ls hl => ?_)
  have loop2 : ∀ (n : Nat) (i : Nat) (ls : Array Slot), (i + n = T.w + 1) → (1 ≤ i) → (fnd T.O v i n = fnd T.O v 1 T.w) → lv_has ls 3 [(2, .int (nI i)), (0, .ref (ad 0)), (1, .int v)] → W p l e (headSpec wT_placeOutside ({ frames := 0, cells := 0, slots := 0, locals := 0 })).room s m ([.ref (ad 0), .int v] : List Value).toArray below meth c s.heap [] 0 0 (MQ below (rQ (some (.int (enc (fnd T.O v 1 T.w))))) ([.ref (ad 0), .int v] : List Value).toArray s 0 0 (fun _ => False)) (F0 m 2 ls []) := by
    intro n
    induction n with
    | zero =>
      intro i ls hn hi hq hl
      refine lv_iload_n hx hb dT_placeOutside_2 rfl (lv_at hl 0 rfl) ?_
      refine lv_aload_n hx hb dT_placeOutside_3 rfl (lv_at hl 1 rfl) ?_
      refine va_get (D := (dC, dI)) (ci := 0) (v := .int (nI T.w)) (C := RT) (T := FT) (N := 8) hx hb hta iT hown hK hP 0 rfl rfl 5 (by decide) (hta _ m_32) (fun _ h9 => h9) rfl dT_placeOutside_4 ?_
      refine ni_gt (tgt := 28) hx hb dT_placeOutside_7 (by decide) (by omega) (by omega) (fun c_1 => ?_) (fun c_1 => ?_)
      · refine lv_iconst (v := (-1)) hx hb dT_placeOutside_28 (by decide) ?_
        exact W.iret (v := (-1)) hx hb hr (fun t ht hW => ⟨congrArg (fun z => Outcome.returned (some (.int z))) (by rw [← hq]; rfl), ht⟩) (fun q h => nomatch h) dT_placeOutside_29
      · exfalso; omega
    | succ n ih =>
      intro i ls hn hi hq hl
      refine lv_iload_n hx hb dT_placeOutside_2 rfl (lv_at hl 0 rfl) ?_
      refine lv_aload_n hx hb dT_placeOutside_3 rfl (lv_at hl 1 rfl) ?_
      refine va_get (D := (dC, dI)) (ci := 0) (v := .int (nI T.w)) (C := RT) (T := FT) (N := 8) hx hb hta iT hown hK hP 0 rfl rfl 5 (by decide) (hta _ m_32) (fun _ h9 => h9) rfl dT_placeOutside_4 ?_
      refine ni_gt (tgt := 28) hx hb dT_placeOutside_7 (by decide) (by omega) (by omega) (fun c_2 => ?_) (fun c_2 => ?_)
      · exfalso; omega
      · refine lv_aload_n hx hb dT_placeOutside_10 rfl (lv_at hl 1 rfl) ?_
        refine va_get (D := (dC, dI)) (ci := 0) (v := .ref (ad 3)) (C := RT) (T := FT) (N := 8) hx hb hta iT hown hK hP 0 rfl rfl 2 (by decide) (hta _ m_29) (fun _ h9 => h9) rfl dT_placeOutside_11 ?_
        refine lv_iload_n hx hb dT_placeOutside_14 rfl (lv_at hl 0 rfl) ?_
        refine na_iald hx hb hK hP 3 2 rfl rfl (i := i) (by omega) (by decide) dT_placeOutside_15 ?_
        refine lv_iload_n hx hb dT_placeOutside_16 rfl (lv_at hl 2 rfl) ?_
        refine lv_icmp_ne (tgt := 22) hx hb dT_placeOutside_17 (by decide) (fun hc => ?_) (fun hc => ?_)
        · refine lv_iinc (v := nI (i + 1)) (lv' := [(2, .int (nI (i + 1))), (0, .ref (ad 0)), (1, .int v)]) hx hb dT_placeOutside_22 hl (k := 0) rfl (nI_add i 1) (by decide) rfl (fun ls hl => ?_)
          refine lv_goto (tgt := 2) hx hb dT_placeOutside_25 (by decide) ?_
          exact ih (i + 1) ls (by omega) (by omega) (by rw [← hq]; simp [fnd, hc]) (lv_sub hl [0, 1, 2] rfl)
        · refine lv_iload_n hx hb dT_placeOutside_20 rfl (lv_at hl 0 rfl) ?_
          exact W.iret (v := nI i) hx hb hr (fun t ht hW => ⟨congrArg (fun z => Outcome.returned (some (.int z))) (by rw [← hq]; simp [fnd, hc, enc]), ht⟩) (fun q h => nomatch h) dT_placeOutside_21
  exact loop2 T.w 1 ls (by omega) (by omega) rfl (lv_sub hl [0, 1, 2] rfl)

set_option maxHeartbeats 4000000 in
set_option maxRecDepth 100000 in
theorem c_T_startOf (l : Launch) (dC : Nat → ClassId) (dI : Nat → Nat → Nat) (ad : Nat → Nat) (k : Nat → ClassId) (T : TS) (v : Int32) (hh : T.h ≤ 24) : Met l yT_startOf wT_startOf ({ frames := 1, cells := 0, slots := 0, locals := 22 }) (rPc [.ref (ad 0), .int v] (dC, dI) vwCl (TW ad k T) (TK k) xT) (rQ (some (.long (T.start v)))) 0 0 (fun _ => False) := by
  refine Met.ofW (cc := bT_startOf) (maxL := 3) (ret := (some .long)) (by decide) rfl ?_
  intro p e s m args below meth c s₁ B hml hv
  obtain ⟨rfl, hP, hK, hX⟩ := hv
  have hx := B.exec
  have hb := B.bytes
  have hr := B.returns
  have hts := atoms_spec (ws := wT_startOf) B.pre
  have hta : ∀ w ∈ AW, w.before _ s = true := fun w h => hts w (List.mem_cons_of_mem _ h)
  have hown : s.vm.findClass RT = some m.cls := findClass_of_methodNamed B.named
  have hlocks := B.notSynchronized
  have hl := lv_entry ([.ref (ad 0), .int v]) (n := 3) (Nat.le_of_ble_eq_true rfl)
  rw [lg_entry_eq]
  generalize (lg_sl ([.ref (ad 0), .int v]) ++ List.replicate (3 - (lg_sl ([.ref (ad 0), .int v])).length) Slot.unset).toArray = ls at hl ⊢
  have hl : lv_has ls 3 [(0, .ref (ad 0)), (1, .int v)] := hl
  refine lv_aload_n hx hb dT_startOf_0 rfl (lv_at hl 0 rfl) ?_
  refine lv_iload_n hx hb dT_startOf_1 rfl (lv_at hl 1 rfl) ?_
  refine rd_call (va_runV (As := [.int v]) (rest := []) ⟨hx, hb, hml, hown, hta⟩ (c_T_placeInside l dC dI ad k T v (by first | omega | exact hw | exact hh)) (cwV 1 hta (gV m_119 m_121 mp_3 m_2 m_122) rfl rfl rfl (by decide +kernel) ⟨Nat.le_of_ble_eq_true rfl, Nat.le_of_ble_eq_true rfl⟩) (rd_V xT_ok trivial hK hP (ci := 0) (q0 := 0) rfl rfl) rfl rfl hl.1 rfl (lv_room (Nat.le_of_ble_eq_true rfl)) dT_startOf_2 ⟨Nat.zero_le _, Nat.zero_le _⟩) ?_
  refine W.eq (g2 := F0 m 5 ls [.int (enc (fnd T.I v 1 T.h))]) rfl ?_
  refine lv_istore_n (lv' := [(2, .int (enc (fnd T.I v 1 T.h))), (0, .ref (ad 0)), (1, .int v)]) hx hb dT_startOf_5 rfl hl (by decide) rfl (fun ls hl => ?_)
  refine lv_iload_n hx hb dT_startOf_6 rfl (lv_at hl 0 rfl) ?_
  refine lv_iconst (v := (-1)) hx hb dT_startOf_7 (by decide) ?_
  refine en_ne (o := (fnd T.I v 1 T.h)) (tgt := 15) hx hb dT_startOf_8 (by decide) (fun j h => by have := fnd_lt h; omega) (fun j_1 ho => ?_) (fun ho => ?_)
  · rw [ho] at hl
    have hl : lv_has ls 3 [(2, .int (nI j_1)), (0, .ref (ad 0)), (1, .int v)] := hl
    have hj_1 := fnd_lt ho
    refine lv_aload_n hx hb dT_startOf_15 rfl (lv_at hl 1 rfl) ?_
    refine lv_iload_n hx hb dT_startOf_16 rfl (lv_at hl 0 rfl) ?_
    refine lv_iconst (v := nI 0) hx hb dT_startOf_17 (by decide) ?_
    refine rd_call (va_runV (As := [.int (nI j_1), .int (nI 0)]) (rest := []) ⟨hx, hb, hml, hown, hta⟩ (c_T_cell l dC dI ad k T j_1 0 (by first | omega | exact hw | exact hh)) (cwV 2 hta (gV m_123 m_125 mp_4 m_2 m_126) rfl rfl rfl (by decide +kernel) ⟨Nat.le_of_ble_eq_true rfl, Nat.le_of_ble_eq_true rfl⟩) (rd_V xT_ok trivial hK hP (ci := 0) (q0 := 0) rfl rfl) rfl rfl hl.1 rfl (lv_room (Nat.le_of_ble_eq_true rfl)) dT_startOf_18 ⟨Nat.zero_le _, Nat.zero_le _⟩) ?_
    refine W.eq (g2 := F0 m 21 ls [.long (T.C (j_1 * 13 + 0))]) rfl ?_
    exact W.lret (v := T.C (j_1 * 13 + 0)) hx hb hr (fun t ht hW => ⟨congrArg (fun z => Outcome.returned (some (.long z))) (by simp [TS.start, ho]), ht⟩) (fun q h => nomatch h) dT_startOf_21
  · rw [ho] at hl
    have hl : lv_has ls 3 [(2, .int (-1)), (0, .ref (ad 0)), (1, .int v)] := hl
    refine lv_lconst (v := 0) hx hb dT_startOf_11 (by decide) ?_
    refine lv_goto (tgt := 21) hx hb dT_startOf_12 (by decide) ?_
    exact W.lret (v := 0) hx hb hr (fun t ht hW => ⟨congrArg (fun z => Outcome.returned (some (.long z))) (by simp [TS.start, ho]), ht⟩) (fun q h => nomatch h) dT_startOf_21

set_option maxHeartbeats 4000000 in
set_option maxRecDepth 100000 in
theorem c_T_numberBy (l : Launch) (dC : Nat → ClassId) (dI : Nat → Nat → Nat) (ad : Nat → Nat) (k : Nat → ClassId) (T : TS) (i : Nat) (v : Int32) (hw : T.w ≤ 12) (hi : i < 25) : Met l yT_numberBy wT_numberBy ({ frames := 1, cells := 0, slots := 0, locals := 22 }) (rPc [.ref (ad 0), .int (nI i), .int v] (dC, dI) vwCl (TW ad k T) (TK k) xT) (rQ (some (.long (T.num i v)))) 0 0 (fun _ => False) := by
  refine Met.ofW (cc := bT_numberBy) (maxL := 4) (ret := (some .long)) (by decide) rfl ?_
  intro p e s m args below meth c s₁ B hml hv
  obtain ⟨rfl, hP, hK, hX⟩ := hv
  have hx := B.exec
  have hb := B.bytes
  have hr := B.returns
  have hts := atoms_spec (ws := wT_numberBy) B.pre
  have hta : ∀ w ∈ AW, w.before _ s = true := fun w h => hts w (List.mem_cons_of_mem _ h)
  have hown : s.vm.findClass RT = some m.cls := findClass_of_methodNamed B.named
  have hlocks := B.notSynchronized
  have hl := lv_entry ([.ref (ad 0), .int (nI i), .int v]) (n := 4) (Nat.le_of_ble_eq_true rfl)
  rw [lg_entry_eq]
  generalize (lg_sl ([.ref (ad 0), .int (nI i), .int v]) ++ List.replicate (4 - (lg_sl ([.ref (ad 0), .int (nI i), .int v])).length) Slot.unset).toArray = ls at hl ⊢
  have hl : lv_has ls 4 [(0, .ref (ad 0)), (1, .int (nI i)), (2, .int v)] := hl
  refine lv_aload_n hx hb dT_numberBy_0 rfl (lv_at hl 0 rfl) ?_
  refine lv_iload_n hx hb dT_numberBy_1 rfl (lv_at hl 2 rfl) ?_
  refine rd_call (va_runV (As := [.int v]) (rest := []) ⟨hx, hb, hml, hown, hta⟩ (c_T_placeOutside l dC dI ad k T v (by first | omega | exact hw | exact hh)) (cwV 1 hta (gV m_342 m_344 mp_19 m_2 m_345) rfl rfl rfl (by decide +kernel) ⟨Nat.le_of_ble_eq_true rfl, Nat.le_of_ble_eq_true rfl⟩) (rd_V xT_ok trivial hK hP (ci := 0) (q0 := 0) rfl rfl) rfl rfl hl.1 rfl (lv_room (Nat.le_of_ble_eq_true rfl)) dT_numberBy_2 ⟨Nat.zero_le _, Nat.zero_le _⟩) ?_
  refine W.eq (g2 := F0 m 5 ls [.int (enc (fnd T.O v 1 T.w))]) rfl ?_
  refine lv_istore_n (lv' := [(3, .int (enc (fnd T.O v 1 T.w))), (0, .ref (ad 0)), (1, .int (nI i)), (2, .int v)]) hx hb dT_numberBy_5 rfl hl (by decide) rfl (fun ls hl => ?_)
  refine lv_iload_n hx hb dT_numberBy_6 rfl (lv_at hl 0 rfl) ?_
  refine lv_iconst (v := (-1)) hx hb dT_numberBy_7 (by decide) ?_
  refine en_ne (o := (fnd T.O v 1 T.w)) (tgt := 15) hx hb dT_numberBy_8 (by decide) (fun j h => by have := fnd_lt h; omega) (fun j_1 ho => ?_) (fun ho => ?_)
  · rw [ho] at hl
    have hl : lv_has ls 4 [(3, .int (nI j_1)), (0, .ref (ad 0)), (1, .int (nI i)), (2, .int v)] := hl
    have hj_1 := fnd_lt ho
    refine lv_aload_n hx hb dT_numberBy_15 rfl (lv_at hl 1 rfl) ?_
    refine lv_iload_n hx hb dT_numberBy_16 rfl (lv_at hl 2 rfl) ?_
    refine lv_iload_n hx hb dT_numberBy_17 rfl (lv_at hl 0 rfl) ?_
    refine rd_call (va_runV (As := [.int (nI i), .int (nI j_1)]) (rest := []) ⟨hx, hb, hml, hown, hta⟩ (c_T_cell l dC dI ad k T i j_1 (by first | omega | exact hw | exact hh)) (cwV 2 hta (gV m_123 m_125 mp_4 m_2 m_126) rfl rfl rfl (by decide +kernel) ⟨Nat.le_of_ble_eq_true rfl, Nat.le_of_ble_eq_true rfl⟩) (rd_V xT_ok trivial hK hP (ci := 0) (q0 := 0) rfl rfl) rfl rfl hl.1 rfl (lv_room (Nat.le_of_ble_eq_true rfl)) dT_numberBy_18 ⟨Nat.zero_le _, Nat.zero_le _⟩) ?_
    refine W.eq (g2 := F0 m 21 ls [.long (T.C (i * 13 + j_1))]) rfl ?_
    exact W.lret (v := T.C (i * 13 + j_1)) hx hb hr (fun t ht hW => ⟨congrArg (fun z => Outcome.returned (some (.long z))) (by simp [TS.num, ho]), ht⟩) (fun q h => nomatch h) dT_numberBy_21
  · rw [ho] at hl
    have hl : lv_has ls 4 [(3, .int (-1)), (0, .ref (ad 0)), (1, .int (nI i)), (2, .int v)] := hl
    refine lv_lconst (v := 0) hx hb dT_numberBy_11 (by decide) ?_
    refine lv_goto (tgt := 21) hx hb dT_numberBy_12 (by decide) ?_
    exact W.lret (v := 0) hx hb hr (fun t ht hW => ⟨congrArg (fun z => Outcome.returned (some (.long z))) (by simp [TS.num, ho]), ht⟩) (fun q h => nomatch h) dT_numberBy_21

set_option maxHeartbeats 4000000 in
set_option maxRecDepth 100000 in
theorem c_T_sumOfStarts (l : Launch) (dC : Nat → ClassId) (dI : Nat → Nat → Nat) (ad : Nat → Nat) (k : Nat → ClassId) (F : Nat → Int32) (T : TS) (f0 : Nat) (hw : T.w ≤ 12) (hh : T.h ≤ 24) (hf : f0 + 12 ≤ 144) : Met l yT_sumOfStarts wT_sumOfStarts ({ frames := 2, cells := 0, slots := 0, locals := 44 }) (rPc [.ref (ad 0), .ref (ad 6), .int (nI f0)] (dC, dI) vwCl (FW ad k F ++ TW ad k T) (FK k ++ TK k) xT) (rQ (some (.long (sumS T F f0 0 T.w 0)))) 0 0 (fun _ => False) := by
  refine Met.ofW (cc := bT_sumOfStarts) (maxL := 6) (ret := (some .long)) (by decide) rfl ?_
  intro p e s m args below meth c s₁ B hml hv
  obtain ⟨rfl, hP, hK, hX⟩ := hv
  have hx := B.exec
  have hb := B.bytes
  have hr := B.returns
  have hts := atoms_spec (ws := wT_sumOfStarts) B.pre
  have hta : ∀ w ∈ AW, w.before _ s = true := fun w h => hts w (List.mem_cons_of_mem _ h)
  have hown : s.vm.findClass RT = some m.cls := findClass_of_methodNamed B.named
  have hlocks := B.notSynchronized
  have hl := lv_entry ([.ref (ad 0), .ref (ad 6), .int (nI f0)]) (n := 6) (Nat.le_of_ble_eq_true rfl)
  rw [lg_entry_eq]
  generalize (lg_sl ([.ref (ad 0), .ref (ad 6), .int (nI f0)]) ++ List.replicate (6 - (lg_sl ([.ref (ad 0), .ref (ad 6), .int (nI f0)])).length) Slot.unset).toArray = ls at hl ⊢
  have hl : lv_has ls 6 [(0, .ref (ad 0)), (1, .ref (ad 6)), (2, .int (nI f0))] := hl
  refine lv_lconst (v := 0) hx hb dT_sumOfStarts_0 (by decide) ?_
  refine lv_lstore_n (lv' := [(3, .long 0), (0, .ref (ad 0)), (1, .ref (ad 6)), (2, .int (nI f0))]) hx hb dT_sumOfStarts_1 rfl hl (by decide) rfl (fun ls hl => ?_)
  refine lv_iconst (v := nI 0) hx hb dT_sumOfStarts_2 (by decide) ?_
  refine lv_istore (lv' := [(5, .int (nI 0)), (3, .long 0), (0, .ref (ad 0)), (1, .ref (ad 6)), (2, .int (nI f0))]) hx hb dT_sumOfStarts_3 hl (by decide) rfl (fun ls hl => ?_)
  have loop5 : ∀ (n : Nat) (j : Nat) (acc : Int64) (ls : Array Slot), (j + n = T.w) → (sumS T F f0 j n acc = sumS T F f0 0 T.w 0) → lv_has ls 6 [(5, .int (nI j)), (3, .long acc), (0, .ref (ad 0)), (1, .ref (ad 6)), (2, .int (nI f0))] → W p l e (headSpec wT_sumOfStarts ({ frames := 2, cells := 0, slots := 0, locals := 44 })).room s m ([.ref (ad 0), .ref (ad 6), .int (nI f0)] : List Value).toArray below meth c s.heap [] 0 0 (MQ below (rQ (some (.long (sumS T F f0 0 T.w 0)))) ([.ref (ad 0), .ref (ad 6), .int (nI f0)] : List Value).toArray s 0 0 (fun _ => False)) (F0 m 5 ls []) := by
    intro n
    induction n with
    | zero =>
      intro j acc ls hn hq hl
      refine lv_iload hx hb dT_sumOfStarts_5 (lv_at hl 0 rfl) ?_
      refine lv_aload_n hx hb dT_sumOfStarts_7 rfl (lv_at hl 2 rfl) ?_
      refine va_get (D := (dC, dI)) (ci := 0) (v := .int (nI T.w)) (C := RT) (T := FT) (N := 8) hx hb hta iT hown hK hP 1 rfl rfl 5 (by decide) (hta _ m_32) (fun _ h9 => h9) rfl dT_sumOfStarts_8 ?_
      refine ni_ge (tgt := 37) hx hb dT_sumOfStarts_11 (by decide) (by omega) (by omega) (fun c_1 => ?_) (fun c_1 => ?_)
      · refine lv_lload_n hx hb dT_sumOfStarts_37 rfl (lv_at hl 1 rfl) ?_
        exact W.lret (v := acc) hx hb hr (fun t ht hW => ⟨congrArg (fun z => Outcome.returned (some (.long z))) (by rw [← hq]; rfl), ht⟩) (fun q h => nomatch h) dT_sumOfStarts_38
      · exfalso; omega
    | succ n ih =>
      intro j acc ls hn hq hl
      refine lv_iload hx hb dT_sumOfStarts_5 (lv_at hl 0 rfl) ?_
      refine lv_aload_n hx hb dT_sumOfStarts_7 rfl (lv_at hl 2 rfl) ?_
      refine va_get (D := (dC, dI)) (ci := 0) (v := .int (nI T.w)) (C := RT) (T := FT) (N := 8) hx hb hta iT hown hK hP 1 rfl rfl 5 (by decide) (hta _ m_32) (fun _ h9 => h9) rfl dT_sumOfStarts_8 ?_
      refine ni_ge (tgt := 37) hx hb dT_sumOfStarts_11 (by decide) (by omega) (by omega) (fun c_2 => ?_) (fun c_2 => ?_)
      · exfalso; omega
      · refine lv_lload_n hx hb dT_sumOfStarts_14 rfl (lv_at hl 1 rfl) ?_
        refine lv_aload_n hx hb dT_sumOfStarts_15 rfl (lv_at hl 3 rfl) ?_
        refine lv_iload_n hx hb dT_sumOfStarts_16 rfl (lv_at hl 4 rfl) ?_
        refine lv_iload hx hb dT_sumOfStarts_17 (lv_at hl 0 rfl) ?_
        refine lv_iadd hx hb dT_sumOfStarts_19 ?_
        refine st_i (y := nI (f0 + j)) (nI_add _ _) ?_
        refine na_iald hx hb hK hP 0 0 rfl rfl (i := (f0 + j)) (by omega) (by decide) dT_sumOfStarts_20 ?_
        refine lv_i2l (v := (F (f0 + j)).toInt64) hx hb dT_sumOfStarts_21 rfl ?_
        refine lv_aload_n hx hb dT_sumOfStarts_22 rfl (lv_at hl 2 rfl) ?_
        refine lv_iload hx hb dT_sumOfStarts_23 (lv_at hl 0 rfl) ?_
        refine rd_call (va_runV (As := [.int (nI j)]) (rest := [.long ((F (f0 + j)).toInt64), .long acc]) ⟨hx, hb, hml, hown, hta⟩ (c_T_startOf l dC dI ad k T (nI j) (by first | omega | exact hw | exact hh)) (cwV 1 hta (gV m_115 m_117 mp_2 m_2 m_118) rfl rfl rfl (by decide +kernel) ⟨Nat.le_of_ble_eq_true rfl, Nat.le_of_ble_eq_true rfl⟩) (rd_V xT_ok trivial (hK.sub [1, 2, 3, 4, 5] rfl) (hP.sub [1, 2, 3, 4, 5, 6] rfl) (ci := 0) (q0 := 0) rfl rfl) rfl rfl hl.1 rfl (lv_room (Nat.le_of_ble_eq_true rfl)) dT_sumOfStarts_25 ⟨Nat.zero_le _, Nat.zero_le _⟩) ?_
        refine W.eq (g2 := F0 m 28 ls [.long (TS.start T (nI j)), .long ((F (f0 + j)).toInt64), .long acc]) rfl ?_
        refine lv_lmul hx hb dT_sumOfStarts_28 ?_
        refine lv_ladd hx hb dT_sumOfStarts_29 ?_
        refine lv_lstore_n (lv' := [(3, .long (acc + (((F (f0 + j)).toInt64) * (TS.start T (nI j))))), (5, .int (nI j)), (0, .ref (ad 0)), (1, .ref (ad 6)), (2, .int (nI f0))]) hx hb dT_sumOfStarts_30 rfl hl (by decide) rfl (fun ls hl => ?_)
        refine lv_iinc (v := nI (j + 1)) (lv' := [(5, .int (nI (j + 1))), (3, .long (acc + (((F (f0 + j)).toInt64) * (TS.start T (nI j))))), (0, .ref (ad 0)), (1, .ref (ad 6)), (2, .int (nI f0))]) hx hb dT_sumOfStarts_31 hl (k := 1) rfl (nI_add j 1) (by decide) rfl (fun ls hl => ?_)
        refine lv_goto (tgt := 5) hx hb dT_sumOfStarts_34 (by decide) ?_
        exact ih (j + 1) (acc + (((F (f0 + j)).toInt64) * (TS.start T (nI j)))) ls (by omega) (by rw [← hq]; rfl) (lv_sub hl [0, 1, 2, 3, 4] rfl)
  exact loop5 T.w 0 0 ls (by omega) rfl (lv_sub hl [0, 1, 2, 3, 4] rfl)

set_option maxHeartbeats 4000000 in
set_option maxRecDepth 100000 in
theorem c_T_toldFits (l : Launch) (dC : Nat → ClassId) (dI : Nat → Nat → Nat) (ad : Nat → Nat) (k : Nat → ClassId) (T : TS)  (hw : T.w ≤ 12) : Met l yT_toldFits wT_toldFits ({ frames := 1, cells := 0, slots := 0, locals := 21 }) (rPc [.ref (ad 0)] (dC, dI) vwCl (TW ad k T) (TK k) xT) (rQ (some (.int (bI (allF T.G 0 (T.w + 1)))))) 0 0 (fun _ => False) := by
  refine Met.ofW (cc := bT_toldFits) (maxL := 2) (ret := (some .boolean)) (by decide) rfl ?_
  intro p e s m args below meth c s₁ B hml hv
  obtain ⟨rfl, hP, hK, hX⟩ := hv
  have hx := B.exec
  have hb := B.bytes
  have hr := B.returns
  have hts := atoms_spec (ws := wT_toldFits) B.pre
  have hta : ∀ w ∈ AW, w.before _ s = true := fun w h => hts w (List.mem_cons_of_mem _ h)
  have hown : s.vm.findClass RT = some m.cls := findClass_of_methodNamed B.named
  have hlocks := B.notSynchronized
  have hl := lv_entry ([.ref (ad 0)]) (n := 2) (Nat.le_of_ble_eq_true rfl)
  rw [lg_entry_eq]
  generalize (lg_sl ([.ref (ad 0)]) ++ List.replicate (2 - (lg_sl ([.ref (ad 0)])).length) Slot.unset).toArray = ls at hl ⊢
  have hl : lv_has ls 2 [(0, .ref (ad 0))] := hl
  refine lv_iconst (v := nI 0) hx hb dT_toldFits_0 (by decide) ?_
  refine lv_istore_n (lv' := [(1, .int (nI 0)), (0, .ref (ad 0))]) hx hb dT_toldFits_1 rfl hl (by decide) rfl (fun ls hl => ?_)
  have loop2 : ∀ (n : Nat) (i : Nat) (ls : Array Slot), (i + n = T.w + 1) → (allF T.G i n = allF T.G 0 (T.w + 1)) → lv_has ls 2 [(1, .int (nI i)), (0, .ref (ad 0))] → W p l e (headSpec wT_toldFits ({ frames := 1, cells := 0, slots := 0, locals := 21 })).room s m ([.ref (ad 0)] : List Value).toArray below meth c s.heap [] 0 0 (MQ below (rQ (some (.int (bI (allF T.G 0 (T.w + 1)))))) ([.ref (ad 0)] : List Value).toArray s 0 0 (fun _ => False)) (F0 m 2 ls []) := by
    intro n
    induction n with
    | zero =>
      intro i ls hn hq hl
      refine lv_iload_n hx hb dT_toldFits_2 rfl (lv_at hl 0 rfl) ?_
      refine lv_aload_n hx hb dT_toldFits_3 rfl (lv_at hl 1 rfl) ?_
      refine va_get (D := (dC, dI)) (ci := 0) (v := .int (nI T.w)) (C := RT) (T := FT) (N := 8) hx hb hta iT hown hK hP 0 rfl rfl 5 (by decide) (hta _ m_32) (fun _ h9 => h9) rfl dT_toldFits_4 ?_
      refine ni_gt (tgt := 30) hx hb dT_toldFits_7 (by decide) (by omega) (by omega) (fun c_1 => ?_) (fun c_1 => ?_)
      · refine lv_iconst (v := 1) hx hb dT_toldFits_30 (by decide) ?_
        exact W.zret (v := 1) hx hb hr (rfl) (fun t ht hW => ⟨congrArg (fun z => Outcome.returned (some (.int z))) (by rw [← hq]; rfl), ht⟩) (fun q h => nomatch h) dT_toldFits_31
      · exfalso; omega
    | succ n ih =>
      intro i ls hn hq hl
      refine lv_iload_n hx hb dT_toldFits_2 rfl (lv_at hl 0 rfl) ?_
      refine lv_aload_n hx hb dT_toldFits_3 rfl (lv_at hl 1 rfl) ?_
      refine va_get (D := (dC, dI)) (ci := 0) (v := .int (nI T.w)) (C := RT) (T := FT) (N := 8) hx hb hta iT hown hK hP 0 rfl rfl 5 (by decide) (hta _ m_32) (fun _ h9 => h9) rfl dT_toldFits_4 ?_
      refine ni_gt (tgt := 30) hx hb dT_toldFits_7 (by decide) (by omega) (by omega) (fun c_2 => ?_) (fun c_2 => ?_)
      · exfalso; omega
      · refine lv_aload_n hx hb dT_toldFits_10 rfl (lv_at hl 1 rfl) ?_
        refine va_get (D := (dC, dI)) (ci := 0) (v := .ref (ad 4)) (C := RT) (T := FT) (N := 8) hx hb hta iT hown hK hP 0 rfl rfl 3 (by decide) (hta _ m_30) (fun _ h9 => h9) rfl dT_toldFits_11 ?_
        refine lv_iload_n hx hb dT_toldFits_14 rfl (lv_at hl 0 rfl) ?_
        refine na_lald hx hb hK hP 4 3 rfl rfl (i := i) (by omega) (by decide) dT_toldFits_15 ?_
        refine rd_call (va_runS (As := [.long (T.G i)]) (rest := []) ⟨hx, hb, hml, hown, hta⟩ (c_T_fits l dC dI ad k (T.G i)) (cwS 1 hta (gS m_350 m_351 m_2 m_352) rfl rfl rfl (by decide +kernel) ⟨Nat.le_of_ble_eq_true rfl, Nat.le_of_ble_eq_true rfl⟩) (rd_S xT_ok trivial (hK.sub [] rfl) va_P_nil) rfl rfl hl.1 rfl (lv_room (Nat.le_of_ble_eq_true rfl)) dT_toldFits_16 ⟨Nat.zero_le _, Nat.zero_le _⟩) ?_
        refine W.eq (g2 := F0 m 19 ls [.int (bI (fits9 (T.G i)))]) rfl ?_
        refine lb_ne (tgt := 24) hx hb dT_toldFits_19 (by decide) (fun hc => ?_) (fun hc => ?_)
        · refine lv_iinc (v := nI (i + 1)) (lv' := [(1, .int (nI (i + 1))), (0, .ref (ad 0))]) hx hb dT_toldFits_24 hl (k := 0) rfl (nI_add i 1) (by decide) rfl (fun ls hl => ?_)
          refine lv_goto (tgt := 2) hx hb dT_toldFits_27 (by decide) ?_
          exact ih (i + 1) ls (by omega) (by rw [← hq]; simp [allF, hc]) (lv_sub hl [0, 1] rfl)
        · refine lv_iconst (v := 0) hx hb dT_toldFits_22 (by decide) ?_
          exact W.zret (v := 0) hx hb hr (rfl) (fun t ht hW => ⟨congrArg (fun z => Outcome.returned (some (.int z))) (by rw [← hq]; simp [allF, hc, bI]), ht⟩) (fun q h => nomatch h) dT_toldFits_23
  exact loop2 (T.w + 1) 0 ls (by omega) rfl (lv_sub hl [0, 1] rfl)

set_option maxHeartbeats 4000000 in
set_option maxRecDepth 100000 in
theorem c_T_leavingPlace (l : Launch) (dC : Nat → ClassId) (dI : Nat → Nat → Nat) (ad : Nat → Nat) (k : Nat → ClassId) (T : TS)  (hh : T.h ≤ 24) : Met l yT_leavingPlace wT_leavingPlace ({ frames := 1, cells := 0, slots := 0, locals := 22 }) (rPc [.ref (ad 0)] (dC, dI) vwCl (TW ad k T) (TK k) xT) (rQ (some (.int (enc (lvM T 1 T.h none))))) 0 0 (fun _ => False) := by
  refine Met.ofW (cc := bT_leavingPlace) (maxL := 3) (ret := (some .int)) (by decide) rfl ?_
  intro p e s m args below meth c s₁ B hml hv
  obtain ⟨rfl, hP, hK, hX⟩ := hv
  have hx := B.exec
  have hb := B.bytes
  have hr := B.returns
  have hts := atoms_spec (ws := wT_leavingPlace) B.pre
  have hta : ∀ w ∈ AW, w.before _ s = true := fun w h => hts w (List.mem_cons_of_mem _ h)
  have hown : s.vm.findClass RT = some m.cls := findClass_of_methodNamed B.named
  have hlocks := B.notSynchronized
  have hl := lv_entry ([.ref (ad 0)]) (n := 3) (Nat.le_of_ble_eq_true rfl)
  rw [lg_entry_eq]
  generalize (lg_sl ([.ref (ad 0)]) ++ List.replicate (3 - (lg_sl ([.ref (ad 0)])).length) Slot.unset).toArray = ls at hl ⊢
  have hl : lv_has ls 3 [(0, .ref (ad 0))] := hl
  refine lv_iconst (v := (-1)) hx hb dT_leavingPlace_0 (by decide) ?_
  refine lv_istore_n (lv' := [(1, .int (-1)), (0, .ref (ad 0))]) hx hb dT_leavingPlace_1 rfl hl (by decide) rfl (fun ls hl => ?_)
  refine lv_iconst (v := nI 1) hx hb dT_leavingPlace_2 (by decide) ?_
  refine lv_istore_n (lv' := [(2, .int (nI 1)), (1, .int (-1)), (0, .ref (ad 0))]) hx hb dT_leavingPlace_3 rfl hl (by decide) rfl (fun ls hl => ?_)
  have loop4 : ∀ (n : Nat) (i : Nat) (b : Option Nat) (ls : Array Slot), (i + n = T.h + 1) → (1 ≤ i) → (∀ j, b = some j → 1 ≤ j ∧ j ≤ T.h) → (lvM T i n b = lvM T 1 T.h none) → lv_has ls 3 [(2, .int (nI i)), (1, .int (enc b)), (0, .ref (ad 0))] → W p l e (headSpec wT_leavingPlace ({ frames := 1, cells := 0, slots := 0, locals := 22 })).room s m ([.ref (ad 0)] : List Value).toArray below meth c s.heap [] 0 0 (MQ below (rQ (some (.int (enc (lvM T 1 T.h none))))) ([.ref (ad 0)] : List Value).toArray s 0 0 (fun _ => False)) (F0 m 4 ls []) := by
    intro n
    induction n with
    | zero =>
      intro i b ls hn hi hb9 hq hl
      refine lv_iload_n hx hb dT_leavingPlace_4 rfl (lv_at hl 0 rfl) ?_
      refine lv_aload_n hx hb dT_leavingPlace_5 rfl (lv_at hl 2 rfl) ?_
      refine va_get (D := (dC, dI)) (ci := 0) (v := .int (nI T.h)) (C := RT) (T := FT) (N := 8) hx hb hta iT hown hK hP 0 rfl rfl 6 (by decide) (hta _ m_34) (fun _ h9 => h9) rfl dT_leavingPlace_6 ?_
      refine ni_gt (tgt := 51) hx hb dT_leavingPlace_9 (by decide) (by omega) (by omega) (fun c_1 => ?_) (fun c_1 => ?_)
      · refine lv_iload_n hx hb dT_leavingPlace_51 rfl (lv_at hl 1 rfl) ?_
        exact W.iret (v := enc b) hx hb hr (fun t ht hW => ⟨congrArg (fun z => Outcome.returned (some (.int z))) (by rw [← hq]; rfl), ht⟩) (fun q h => nomatch h) dT_leavingPlace_52
      · exfalso; omega
    | succ n ih =>
      intro i b ls hn hi hb9 hq hl
      refine lv_iload_n hx hb dT_leavingPlace_4 rfl (lv_at hl 0 rfl) ?_
      refine lv_aload_n hx hb dT_leavingPlace_5 rfl (lv_at hl 2 rfl) ?_
      refine va_get (D := (dC, dI)) (ci := 0) (v := .int (nI T.h)) (C := RT) (T := FT) (N := 8) hx hb hta iT hown hK hP 0 rfl rfl 6 (by decide) (hta _ m_34) (fun _ h9 => h9) rfl dT_leavingPlace_6 ?_
      refine ni_gt (tgt := 51) hx hb dT_leavingPlace_9 (by decide) (by omega) (by omega) (fun c_2 => ?_) (fun c_2 => ?_)
      · exfalso; omega
      · refine lv_aload_n hx hb dT_leavingPlace_12 rfl (lv_at hl 2 rfl) ?_
        refine lv_iload_n hx hb dT_leavingPlace_13 rfl (lv_at hl 0 rfl) ?_
        refine lv_iconst (v := nI 0) hx hb dT_leavingPlace_14 (by decide) ?_
        refine rd_call (va_runV (As := [.int (nI i), .int (nI 0)]) (rest := []) ⟨hx, hb, hml, hown, hta⟩ (c_T_cell l dC dI ad k T i 0 (by first | omega | exact hw | exact hh)) (cwV 2 hta (gV m_123 m_125 mp_4 m_2 m_126) rfl rfl rfl (by decide +kernel) ⟨Nat.le_of_ble_eq_true rfl, Nat.le_of_ble_eq_true rfl⟩) (rd_V xT_ok trivial hK hP (ci := 0) (q0 := 0) rfl rfl) rfl rfl hl.1 rfl (lv_room (Nat.le_of_ble_eq_true rfl)) dT_leavingPlace_15 ⟨Nat.zero_le _, Nat.zero_le _⟩) ?_
        refine W.eq (g2 := F0 m 18 ls [.long (T.C (i * 13 + 0))]) rfl ?_
        refine lv_lconst (v := 0) hx hb dT_leavingPlace_18 (by decide) ?_
        refine ll_ge (tgt := 45) hx hb dT_leavingPlace_19 dT_leavingPlace_20 (by decide) (fun h1 => ?_) (fun h1 => ?_)
        · refine lv_iinc (v := nI (i + 1)) (lv' := [(2, .int (nI (i + 1))), (1, .int (enc b)), (0, .ref (ad 0))]) hx hb dT_leavingPlace_45 hl (k := 0) rfl (nI_add i 1) (by decide) rfl (fun ls hl => ?_)
          refine lv_goto (tgt := 4) hx hb dT_leavingPlace_48 (by decide) ?_
          exact ih (i + 1) b ls (by omega) (by omega) hb9 (by rw [← hq, lvM, if_neg (by rw [show lvB T i b = false by simp only [lvB, decide_eq_false h1, Bool.false_and]]; decide)]) (lv_sub hl [0, 1, 2] rfl)
        · refine lv_iload_n hx hb dT_leavingPlace_23 rfl (lv_at hl 1 rfl) ?_
          refine lv_iconst (v := (-1)) hx hb dT_leavingPlace_24 (by decide) ?_
          refine en_eq (o := b) (tgt := 43) hx hb dT_leavingPlace_25 (by decide) (fun j h => by have := hb9 j h; omega) (fun ho => ?_) (fun j_3 ho => ?_)
          · rw [ho] at hl
            have hl : lv_has ls 3 [(2, .int (nI i)), (1, .int (-1)), (0, .ref (ad 0))] := hl
            refine lv_iload_n hx hb dT_leavingPlace_43 rfl (lv_at hl 0 rfl) ?_
            refine lv_istore_n (lv' := [(1, .int (nI i)), (2, .int (nI i)), (0, .ref (ad 0))]) hx hb dT_leavingPlace_44 rfl hl (by decide) rfl (fun ls hl => ?_)
            refine lv_iinc (v := nI (i + 1)) (lv' := [(2, .int (nI (i + 1))), (1, .int (nI i)), (0, .ref (ad 0))]) hx hb dT_leavingPlace_45 hl (k := 1) rfl (nI_add i 1) (by decide) rfl (fun ls hl => ?_)
            refine lv_goto (tgt := 4) hx hb dT_leavingPlace_48 (by decide) ?_
            exact ih (i + 1) (some i) ls (by omega) (by omega) (fun j h => by cases h; omega) (by rw [← hq, lvM, if_pos (show lvB T i b = true by first | (rw [ho]; simp only [lvB, decide_eq_true h1, decide_eq_true h2]; rfl; done) | (rw [ho]; simp only [lvB, decide_eq_true h1]; rfl))]) (lv_sub hl [0, 1, 2] rfl)
          · rw [ho] at hl
            have hl : lv_has ls 3 [(2, .int (nI i)), (1, .int (nI j_3)), (0, .ref (ad 0))] := hl
            have hj9 := hb9 _ ho
            refine lv_aload_n hx hb dT_leavingPlace_28 rfl (lv_at hl 2 rfl) ?_
            refine va_get (D := (dC, dI)) (ci := 0) (v := .ref (ad 2)) (C := RT) (T := FT) (N := 8) hx hb hta iT hown hK hP 0 rfl rfl 1 (by decide) (hta _ m_27) (fun _ h9 => h9) rfl dT_leavingPlace_29 ?_
            refine lv_iload_n hx hb dT_leavingPlace_32 rfl (lv_at hl 0 rfl) ?_
            refine na_iald hx hb hK hP 2 1 rfl rfl (i := i) (by omega) (by decide) dT_leavingPlace_33 ?_
            refine lv_aload_n hx hb dT_leavingPlace_34 rfl (lv_at hl 2 rfl) ?_
            refine va_get (D := (dC, dI)) (ci := 0) (v := .ref (ad 2)) (C := RT) (T := FT) (N := 8) hx hb hta iT hown hK hP 0 rfl rfl 1 (by decide) (hta _ m_27) (fun _ h9 => h9) rfl dT_leavingPlace_35 ?_
            refine lv_iload_n hx hb dT_leavingPlace_38 rfl (lv_at hl 1 rfl) ?_
            refine na_iald hx hb hK hP 2 1 rfl rfl (i := j_3) (by omega) (by decide) dT_leavingPlace_39 ?_
            refine li_ge (tgt := 45) hx hb dT_leavingPlace_40 (by decide) (fun h2 => ?_) (fun h2 => ?_)
            · refine lv_iinc (v := nI (i + 1)) (lv' := [(2, .int (nI (i + 1))), (1, .int (nI j_3)), (0, .ref (ad 0))]) hx hb dT_leavingPlace_45 hl (k := 0) rfl (nI_add i 1) (by decide) rfl (fun ls hl => ?_)
              refine lv_goto (tgt := 4) hx hb dT_leavingPlace_48 (by decide) ?_
              exact ih (i + 1) (some j_3) ls (by omega) (by omega) (fun j h => by cases h; omega) (by rw [← hq, lvM, if_neg (by rw [show lvB T i b = false by (rw [ho]; simp only [lvB, decide_eq_true h1, decide_eq_false h2]; rfl)]; decide), ho]) (lv_sub hl [0, 1, 2] rfl)
            · refine lv_iload_n hx hb dT_leavingPlace_43 rfl (lv_at hl 0 rfl) ?_
              refine lv_istore_n (lv' := [(1, .int (nI i)), (2, .int (nI i)), (0, .ref (ad 0))]) hx hb dT_leavingPlace_44 rfl hl (by decide) rfl (fun ls hl => ?_)
              refine lv_iinc (v := nI (i + 1)) (lv' := [(2, .int (nI (i + 1))), (1, .int (nI i)), (0, .ref (ad 0))]) hx hb dT_leavingPlace_45 hl (k := 1) rfl (nI_add i 1) (by decide) rfl (fun ls hl => ?_)
              refine lv_goto (tgt := 4) hx hb dT_leavingPlace_48 (by decide) ?_
              exact ih (i + 1) (some i) ls (by omega) (by omega) (fun j h => by cases h; omega) (by rw [← hq, lvM, if_pos (show lvB T i b = true by first | (rw [ho]; simp only [lvB, decide_eq_true h1, decide_eq_true h2]; rfl; done) | (rw [ho]; simp only [lvB, decide_eq_true h1]; rfl))]) (lv_sub hl [0, 1, 2] rfl)
  exact loop4 T.h 1 none ls (by omega) (by omega) (fun j h => nomatch h) rfl (lv_sub hl [0, 1, 2] rfl)

set_option maxHeartbeats 4000000 in
set_option maxRecDepth 100000 in
theorem c_T_entersBefore (l : Launch) (dC : Nat → ClassId) (dI : Nat → Nat → Nat) (ad : Nat → Nat) (k : Nat → ClassId) (T : TS) (le kk o : Nat) (hle : le < 25) (hk : kk < 13) (ho : o < 13) : Met l yT_entersBefore wT_entersBefore ({ frames := 1, cells := 0, slots := 0, locals := 22 }) (rPc [.ref (ad 0), .int (nI le), .int (nI kk), .int (nI o)] (dC, dI) vwCl (TW ad k T) (TK k) xT) (rQ (some (.int (bI (ebM T le kk o))))) 0 0 (fun _ => False) := by
  refine Met.ofW (cc := bT_entersBefore) (maxL := 8) (ret := (some .boolean)) (by decide) rfl ?_
  intro p e s m args below meth c s₁ B hml hv
  obtain ⟨rfl, hP, hK, hX⟩ := hv
  have hx := B.exec
  have hb := B.bytes
  have hr := B.returns
  have hts := atoms_spec (ws := wT_entersBefore) B.pre
  have hta : ∀ w ∈ AW, w.before _ s = true := fun w h => hts w (List.mem_cons_of_mem _ h)
  have hown : s.vm.findClass RT = some m.cls := findClass_of_methodNamed B.named
  have hlocks := B.notSynchronized
  have hl := lv_entry ([.ref (ad 0), .int (nI le), .int (nI kk), .int (nI o)]) (n := 8) (Nat.le_of_ble_eq_true rfl)
  rw [lg_entry_eq]
  generalize (lg_sl ([.ref (ad 0), .int (nI le), .int (nI kk), .int (nI o)]) ++ List.replicate (8 - (lg_sl ([.ref (ad 0), .int (nI le), .int (nI kk), .int (nI o)])).length) Slot.unset).toArray = ls at hl ⊢
  have hl : lv_has ls 8 [(0, .ref (ad 0)), (1, .int (nI le)), (2, .int (nI kk)), (3, .int (nI o))] := hl
  refine lv_aload_n hx hb dT_entersBefore_0 rfl (lv_at hl 0 rfl) ?_
  refine lv_iconst (v := nI 0) hx hb dT_entersBefore_1 (by decide) ?_
  refine lv_iload_n hx hb dT_entersBefore_2 rfl (lv_at hl 2 rfl) ?_
  refine rd_call (va_runV (As := [.int (nI 0), .int (nI kk)]) (rest := []) ⟨hx, hb, hml, hown, hta⟩ (c_T_cell l dC dI ad k T 0 kk (by first | omega | exact hw | exact hh)) (cwV 2 hta (gV m_123 m_125 mp_4 m_2 m_126) rfl rfl rfl (by decide +kernel) ⟨Nat.le_of_ble_eq_true rfl, Nat.le_of_ble_eq_true rfl⟩) (rd_V xT_ok trivial hK hP (ci := 0) (q0 := 0) rfl rfl) rfl rfl hl.1 rfl (lv_room (Nat.le_of_ble_eq_true rfl)) dT_entersBefore_3 ⟨Nat.zero_le _, Nat.zero_le _⟩) ?_
  refine W.eq (g2 := F0 m 6 ls [.long (T.C (0 * 13 + kk))]) rfl ?_
  refine lv_aload_n hx hb dT_entersBefore_6 rfl (lv_at hl 0 rfl) ?_
  refine lv_iload_n hx hb dT_entersBefore_7 rfl (lv_at hl 1 rfl) ?_
  refine lv_iload_n hx hb dT_entersBefore_8 rfl (lv_at hl 3 rfl) ?_
  refine rd_call (va_runV (As := [.int (nI le), .int (nI o)]) (rest := [.long (T.C (0 * 13 + kk))]) ⟨hx, hb, hml, hown, hta⟩ (c_T_cell l dC dI ad k T le o (by first | omega | exact hw | exact hh)) (cwV 2 hta (gV m_123 m_125 mp_4 m_2 m_126) rfl rfl rfl (by decide +kernel) ⟨Nat.le_of_ble_eq_true rfl, Nat.le_of_ble_eq_true rfl⟩) (rd_V xT_ok trivial hK hP (ci := 0) (q0 := 0) rfl rfl) rfl rfl hl.1 rfl (lv_room (Nat.le_of_ble_eq_true rfl)) dT_entersBefore_9 ⟨Nat.zero_le _, Nat.zero_le _⟩) ?_
  refine W.eq (g2 := F0 m 12 ls [.long (T.C (le * 13 + o)), .long (T.C (0 * 13 + kk))]) rfl ?_
  refine lv_lmul hx hb dT_entersBefore_12 ?_
  refine lv_lstore (lv' := [(4, .long ((T.C (0 * 13 + kk)) * (T.C (le * 13 + o)))), (0, .ref (ad 0)), (1, .int (nI le)), (2, .int (nI kk)), (3, .int (nI o))]) hx hb dT_entersBefore_13 hl (by decide) rfl (fun ls hl => ?_)
  refine lv_aload_n hx hb dT_entersBefore_15 rfl (lv_at hl 1 rfl) ?_
  refine lv_iconst (v := nI 0) hx hb dT_entersBefore_16 (by decide) ?_
  refine lv_iload_n hx hb dT_entersBefore_17 rfl (lv_at hl 4 rfl) ?_
  refine rd_call (va_runV (As := [.int (nI 0), .int (nI o)]) (rest := []) ⟨hx, hb, hml, hown, hta⟩ (c_T_cell l dC dI ad k T 0 o (by first | omega | exact hw | exact hh)) (cwV 2 hta (gV m_123 m_125 mp_4 m_2 m_126) rfl rfl rfl (by decide +kernel) ⟨Nat.le_of_ble_eq_true rfl, Nat.le_of_ble_eq_true rfl⟩) (rd_V xT_ok trivial hK hP (ci := 0) (q0 := 0) rfl rfl) rfl rfl hl.1 rfl (lv_room (Nat.le_of_ble_eq_true rfl)) dT_entersBefore_18 ⟨Nat.zero_le _, Nat.zero_le _⟩) ?_
  refine W.eq (g2 := F0 m 21 ls [.long (T.C (0 * 13 + o))]) rfl ?_
  refine lv_aload_n hx hb dT_entersBefore_21 rfl (lv_at hl 1 rfl) ?_
  refine lv_iload_n hx hb dT_entersBefore_22 rfl (lv_at hl 2 rfl) ?_
  refine lv_iload_n hx hb dT_entersBefore_23 rfl (lv_at hl 3 rfl) ?_
  refine rd_call (va_runV (As := [.int (nI le), .int (nI kk)]) (rest := [.long (T.C (0 * 13 + o))]) ⟨hx, hb, hml, hown, hta⟩ (c_T_cell l dC dI ad k T le kk (by first | omega | exact hw | exact hh)) (cwV 2 hta (gV m_123 m_125 mp_4 m_2 m_126) rfl rfl rfl (by decide +kernel) ⟨Nat.le_of_ble_eq_true rfl, Nat.le_of_ble_eq_true rfl⟩) (rd_V xT_ok trivial hK hP (ci := 0) (q0 := 0) rfl rfl) rfl rfl hl.1 rfl (lv_room (Nat.le_of_ble_eq_true rfl)) dT_entersBefore_24 ⟨Nat.zero_le _, Nat.zero_le _⟩) ?_
  refine W.eq (g2 := F0 m 27 ls [.long (T.C (le * 13 + kk)), .long (T.C (0 * 13 + o))]) rfl ?_
  refine lv_lmul hx hb dT_entersBefore_27 ?_
  refine lv_lstore (lv' := [(6, .long ((T.C (0 * 13 + o)) * (T.C (le * 13 + kk)))), (4, .long ((T.C (0 * 13 + kk)) * (T.C (le * 13 + o)))), (0, .ref (ad 0)), (1, .int (nI le)), (2, .int (nI kk)), (3, .int (nI o))]) hx hb dT_entersBefore_28 hl (by decide) rfl (fun ls hl => ?_)
  refine lv_lload hx hb dT_entersBefore_30 (lv_at hl 1 rfl) ?_
  refine lv_lload hx hb dT_entersBefore_32 (lv_at hl 0 rfl) ?_
  refine ll_lt (tgt := 61) hx hb dT_entersBefore_34 dT_entersBefore_35 (by decide) (fun h1 => ?_) (fun h1 => ?_)
  · refine lv_iconst (v := 1) hx hb dT_entersBefore_61 (by decide) ?_
    refine lv_goto (tgt := 66) hx hb dT_entersBefore_62 (by decide) ?_
    exact W.zret (v := 1) hx hb hr (rfl) (fun t ht hW => ⟨congrArg (fun z => Outcome.returned (some (.int z))) (by simp_all [ebM, bI]), ht⟩) (fun q h => nomatch h) dT_entersBefore_66
  · refine lv_lload hx hb dT_entersBefore_38 (lv_at hl 1 rfl) ?_
    refine lv_lload hx hb dT_entersBefore_40 (lv_at hl 0 rfl) ?_
    refine ll_ne (tgt := 65) hx hb dT_entersBefore_42 dT_entersBefore_43 (by decide) (fun h2 => ?_) (fun h2 => ?_)
    · refine lv_iconst (v := 0) hx hb dT_entersBefore_65 (by decide) ?_
      exact W.zret (v := 0) hx hb hr (rfl) (fun t ht hW => ⟨congrArg (fun z => Outcome.returned (some (.int z))) (by simp_all [ebM, bI]), ht⟩) (fun q h => nomatch h) dT_entersBefore_66
    · refine lv_aload_n hx hb dT_entersBefore_46 rfl (lv_at hl 2 rfl) ?_
      refine va_get (D := (dC, dI)) (ci := 0) (v := .ref (ad 3)) (C := RT) (T := FT) (N := 8) hx hb hta iT hown hK hP 0 rfl rfl 2 (by decide) (hta _ m_29) (fun _ h9 => h9) rfl dT_entersBefore_47 ?_
      refine lv_iload_n hx hb dT_entersBefore_50 rfl (lv_at hl 4 rfl) ?_
      refine na_iald hx hb hK hP 3 2 rfl rfl (i := kk) (by omega) (by decide) dT_entersBefore_51 ?_
      refine lv_aload_n hx hb dT_entersBefore_52 rfl (lv_at hl 2 rfl) ?_
      refine va_get (D := (dC, dI)) (ci := 0) (v := .ref (ad 3)) (C := RT) (T := FT) (N := 8) hx hb hta iT hown hK hP 0 rfl rfl 2 (by decide) (hta _ m_29) (fun _ h9 => h9) rfl dT_entersBefore_53 ?_
      refine lv_iload_n hx hb dT_entersBefore_56 rfl (lv_at hl 5 rfl) ?_
      refine na_iald hx hb hK hP 3 2 rfl rfl (i := o) (by omega) (by decide) dT_entersBefore_57 ?_
      refine li_ge (tgt := 65) hx hb dT_entersBefore_58 (by decide) (fun h3 => ?_) (fun h3 => ?_)
      · refine lv_iconst (v := 0) hx hb dT_entersBefore_65 (by decide) ?_
        exact W.zret (v := 0) hx hb hr (rfl) (fun t ht hW => ⟨congrArg (fun z => Outcome.returned (some (.int z))) (by simp_all [ebM, bI]), ht⟩) (fun q h => nomatch h) dT_entersBefore_66
      · refine lv_iconst (v := 1) hx hb dT_entersBefore_61 (by decide) ?_
        refine lv_goto (tgt := 66) hx hb dT_entersBefore_62 (by decide) ?_
        exact W.zret (v := 1) hx hb hr (rfl) (fun t ht hW => ⟨congrArg (fun z => Outcome.returned (some (.int z))) (by simp_all [ebM, bI]), ht⟩) (fun q h => nomatch h) dT_entersBefore_66

set_option maxHeartbeats 4000000 in
set_option maxRecDepth 100000 in
theorem c_T_enteringPlace (l : Launch) (dC : Nat → ClassId) (dI : Nat → Nat → Nat) (ad : Nat → Nat) (k : Nat → ClassId) (T : TS) (le : Nat) (hw : T.w ≤ 12) (hle : le < 25) : Met l yT_enteringPlace wT_enteringPlace ({ frames := 2, cells := 0, slots := 0, locals := 49 }) (rPc [.ref (ad 0), .int (nI le)] (dC, dI) vwCl (TW ad k T) (TK k) xT) (rQ (some (.int (enc (enM T le 1 T.w none))))) 0 0 (fun _ => False) := by
  refine Met.ofW (cc := bT_enteringPlace) (maxL := 4) (ret := (some .int)) (by decide) rfl ?_
  intro p e s m args below meth c s₁ B hml hv
  obtain ⟨rfl, hP, hK, hX⟩ := hv
  have hx := B.exec
  have hb := B.bytes
  have hr := B.returns
  have hts := atoms_spec (ws := wT_enteringPlace) B.pre
  have hta : ∀ w ∈ AW, w.before _ s = true := fun w h => hts w (List.mem_cons_of_mem _ h)
  have hown : s.vm.findClass RT = some m.cls := findClass_of_methodNamed B.named
  have hlocks := B.notSynchronized
  have hl := lv_entry ([.ref (ad 0), .int (nI le)]) (n := 4) (Nat.le_of_ble_eq_true rfl)
  rw [lg_entry_eq]
  generalize (lg_sl ([.ref (ad 0), .int (nI le)]) ++ List.replicate (4 - (lg_sl ([.ref (ad 0), .int (nI le)])).length) Slot.unset).toArray = ls at hl ⊢
  have hl : lv_has ls 4 [(0, .ref (ad 0)), (1, .int (nI le))] := hl
  refine lv_iconst (v := (-1)) hx hb dT_enteringPlace_0 (by decide) ?_
  refine lv_istore_n (lv' := [(2, .int (-1)), (0, .ref (ad 0)), (1, .int (nI le))]) hx hb dT_enteringPlace_1 rfl hl (by decide) rfl (fun ls hl => ?_)
  refine lv_iconst (v := nI 1) hx hb dT_enteringPlace_2 (by decide) ?_
  refine lv_istore_n (lv' := [(3, .int (nI 1)), (2, .int (-1)), (0, .ref (ad 0)), (1, .int (nI le))]) hx hb dT_enteringPlace_3 rfl hl (by decide) rfl (fun ls hl => ?_)
  have loop4 : ∀ (n : Nat) (i : Nat) (b : Option Nat) (ls : Array Slot), (i + n = T.w + 1) → (1 ≤ i) → (∀ j, b = some j → 1 ≤ j ∧ j ≤ T.w) → (enM T le i n b = enM T le 1 T.w none) → lv_has ls 4 [(3, .int (nI i)), (2, .int (enc b)), (0, .ref (ad 0)), (1, .int (nI le))] → W p l e (headSpec wT_enteringPlace ({ frames := 2, cells := 0, slots := 0, locals := 49 })).room s m ([.ref (ad 0), .int (nI le)] : List Value).toArray below meth c s.heap [] 0 0 (MQ below (rQ (some (.int (enc (enM T le 1 T.w none))))) ([.ref (ad 0), .int (nI le)] : List Value).toArray s 0 0 (fun _ => False)) (F0 m 4 ls []) := by
    intro n
    induction n with
    | zero =>
      intro i b ls hn hi hb9 hq hl
      refine lv_iload_n hx hb dT_enteringPlace_4 rfl (lv_at hl 0 rfl) ?_
      refine lv_aload_n hx hb dT_enteringPlace_5 rfl (lv_at hl 2 rfl) ?_
      refine va_get (D := (dC, dI)) (ci := 0) (v := .int (nI T.w)) (C := RT) (T := FT) (N := 8) hx hb hta iT hown hK hP 0 rfl rfl 5 (by decide) (hta _ m_32) (fun _ h9 => h9) rfl dT_enteringPlace_6 ?_
      refine ni_gt (tgt := 46) hx hb dT_enteringPlace_9 (by decide) (by omega) (by omega) (fun c_1 => ?_) (fun c_1 => ?_)
      · refine lv_iload_n hx hb dT_enteringPlace_46 rfl (lv_at hl 1 rfl) ?_
        exact W.iret (v := enc b) hx hb hr (fun t ht hW => ⟨congrArg (fun z => Outcome.returned (some (.int z))) (by rw [← hq]; rfl), ht⟩) (fun q h => nomatch h) dT_enteringPlace_47
      · exfalso; omega
    | succ n ih =>
      intro i b ls hn hi hb9 hq hl
      refine lv_iload_n hx hb dT_enteringPlace_4 rfl (lv_at hl 0 rfl) ?_
      refine lv_aload_n hx hb dT_enteringPlace_5 rfl (lv_at hl 2 rfl) ?_
      refine va_get (D := (dC, dI)) (ci := 0) (v := .int (nI T.w)) (C := RT) (T := FT) (N := 8) hx hb hta iT hown hK hP 0 rfl rfl 5 (by decide) (hta _ m_32) (fun _ h9 => h9) rfl dT_enteringPlace_6 ?_
      refine ni_gt (tgt := 46) hx hb dT_enteringPlace_9 (by decide) (by omega) (by omega) (fun c_2 => ?_) (fun c_2 => ?_)
      · exfalso; omega
      · refine lv_aload_n hx hb dT_enteringPlace_12 rfl (lv_at hl 2 rfl) ?_
        refine lv_iload_n hx hb dT_enteringPlace_13 rfl (lv_at hl 3 rfl) ?_
        refine lv_iload_n hx hb dT_enteringPlace_14 rfl (lv_at hl 0 rfl) ?_
        refine rd_call (va_runV (As := [.int (nI le), .int (nI i)]) (rest := []) ⟨hx, hb, hml, hown, hta⟩ (c_T_cell l dC dI ad k T le i (by first | omega | exact hw | exact hh)) (cwV 2 hta (gV m_123 m_125 mp_4 m_2 m_126) rfl rfl rfl (by decide +kernel) ⟨Nat.le_of_ble_eq_true rfl, Nat.le_of_ble_eq_true rfl⟩) (rd_V xT_ok trivial hK hP (ci := 0) (q0 := 0) rfl rfl) rfl rfl hl.1 rfl (lv_room (Nat.le_of_ble_eq_true rfl)) dT_enteringPlace_15 ⟨Nat.zero_le _, Nat.zero_le _⟩) ?_
        refine W.eq (g2 := F0 m 18 ls [.long (T.C (le * 13 + i))]) rfl ?_
        refine lv_lconst (v := 0) hx hb dT_enteringPlace_18 (by decide) ?_
        refine ll_le (tgt := 40) hx hb dT_enteringPlace_19 dT_enteringPlace_20 (by decide) (fun h1 => ?_) (fun h1 => ?_)
        · refine lv_iinc (v := nI (i + 1)) (lv' := [(3, .int (nI (i + 1))), (2, .int (enc b)), (0, .ref (ad 0)), (1, .int (nI le))]) hx hb dT_enteringPlace_40 hl (k := 0) rfl (nI_add i 1) (by decide) rfl (fun ls hl => ?_)
          refine lv_goto (tgt := 4) hx hb dT_enteringPlace_43 (by decide) ?_
          exact ih (i + 1) b ls (by omega) (by omega) hb9 (by rw [← hq, enM, if_neg (by rw [show enB T le i b = false by simp only [enB, decide_eq_false h1, Bool.false_and]]; decide)]) (lv_sub hl [0, 1, 2, 3] rfl)
        · refine lv_iload_n hx hb dT_enteringPlace_23 rfl (lv_at hl 1 rfl) ?_
          refine lv_iconst (v := (-1)) hx hb dT_enteringPlace_24 (by decide) ?_
          refine en_eq (o := b) (tgt := 38) hx hb dT_enteringPlace_25 (by decide) (fun j h => by have := hb9 j h; omega) (fun ho => ?_) (fun j_3 ho => ?_)
          · rw [ho] at hl
            have hl : lv_has ls 4 [(3, .int (nI i)), (2, .int (-1)), (0, .ref (ad 0)), (1, .int (nI le))] := hl
            refine lv_iload_n hx hb dT_enteringPlace_38 rfl (lv_at hl 0 rfl) ?_
            refine lv_istore_n (lv' := [(2, .int (nI i)), (3, .int (nI i)), (0, .ref (ad 0)), (1, .int (nI le))]) hx hb dT_enteringPlace_39 rfl hl (by decide) rfl (fun ls hl => ?_)
            refine lv_iinc (v := nI (i + 1)) (lv' := [(3, .int (nI (i + 1))), (2, .int (nI i)), (0, .ref (ad 0)), (1, .int (nI le))]) hx hb dT_enteringPlace_40 hl (k := 1) rfl (nI_add i 1) (by decide) rfl (fun ls hl => ?_)
            refine lv_goto (tgt := 4) hx hb dT_enteringPlace_43 (by decide) ?_
            exact ih (i + 1) (some i) ls (by omega) (by omega) (fun j h => by cases h; omega) (by rw [← hq, enM, if_pos (show enB T le i b = true by first | (rw [ho]; simp only [enB, decide_eq_true h1, h2]; rfl; done) | (rw [ho]; simp only [enB, decide_eq_true h1]; rfl))]) (lv_sub hl [0, 1, 2, 3] rfl)
          · rw [ho] at hl
            have hl : lv_has ls 4 [(3, .int (nI i)), (2, .int (nI j_3)), (0, .ref (ad 0)), (1, .int (nI le))] := hl
            have hj9 := hb9 _ ho
            refine lv_aload_n hx hb dT_enteringPlace_28 rfl (lv_at hl 2 rfl) ?_
            refine lv_iload_n hx hb dT_enteringPlace_29 rfl (lv_at hl 3 rfl) ?_
            refine lv_iload_n hx hb dT_enteringPlace_30 rfl (lv_at hl 0 rfl) ?_
            refine lv_iload_n hx hb dT_enteringPlace_31 rfl (lv_at hl 1 rfl) ?_
            refine rd_call (va_runV (As := [.int (nI le), .int (nI i), .int (nI j_3)]) (rest := []) ⟨hx, hb, hml, hown, hta⟩ (c_T_entersBefore l dC dI ad k T le i j_3 (by first | omega | exact hw | exact hh) (by first | omega | exact hw | exact hh) (by first | omega | exact hw | exact hh)) (cwV 3 hta (gV m_402 m_404 mp_30 m_2 m_405) rfl rfl rfl (by decide +kernel) ⟨Nat.le_of_ble_eq_true rfl, Nat.le_of_ble_eq_true rfl⟩) (rd_V xT_ok trivial hK hP (ci := 0) (q0 := 0) rfl rfl) rfl rfl hl.1 rfl (lv_room (Nat.le_of_ble_eq_true rfl)) dT_enteringPlace_32 ⟨Nat.zero_le _, Nat.zero_le _⟩) ?_
            refine W.eq (g2 := F0 m 35 ls [.int (bI (ebM T le i j_3))]) rfl ?_
            refine lb_eq (tgt := 40) hx hb dT_enteringPlace_35 (by decide) (fun h2 => ?_) (fun h2 => ?_)
            · refine lv_iinc (v := nI (i + 1)) (lv' := [(3, .int (nI (i + 1))), (2, .int (nI j_3)), (0, .ref (ad 0)), (1, .int (nI le))]) hx hb dT_enteringPlace_40 hl (k := 0) rfl (nI_add i 1) (by decide) rfl (fun ls hl => ?_)
              refine lv_goto (tgt := 4) hx hb dT_enteringPlace_43 (by decide) ?_
              exact ih (i + 1) (some j_3) ls (by omega) (by omega) (fun j h => by cases h; omega) (by rw [← hq, enM, if_neg (by rw [show enB T le i b = false by (rw [ho]; simp only [enB, decide_eq_true h1, h2]; rfl)]; decide), ho]) (lv_sub hl [0, 1, 2, 3] rfl)
            · refine lv_iload_n hx hb dT_enteringPlace_38 rfl (lv_at hl 0 rfl) ?_
              refine lv_istore_n (lv' := [(2, .int (nI i)), (3, .int (nI i)), (0, .ref (ad 0)), (1, .int (nI le))]) hx hb dT_enteringPlace_39 rfl hl (by decide) rfl (fun ls hl => ?_)
              refine lv_iinc (v := nI (i + 1)) (lv' := [(3, .int (nI (i + 1))), (2, .int (nI i)), (0, .ref (ad 0)), (1, .int (nI le))]) hx hb dT_enteringPlace_40 hl (k := 1) rfl (nI_add i 1) (by decide) rfl (fun ls hl => ?_)
              refine lv_goto (tgt := 4) hx hb dT_enteringPlace_43 (by decide) ?_
              exact ih (i + 1) (some i) ls (by omega) (by omega) (fun j h => by cases h; omega) (by rw [← hq, enM, if_pos (show enB T le i b = true by first | (rw [ho]; simp only [enB, decide_eq_true h1, h2]; rfl; done) | (rw [ho]; simp only [enB, decide_eq_true h1]; rfl))]) (lv_sub hl [0, 1, 2, 3] rfl)
  exact loop4 T.w 1 none ls (by omega) (by omega) (fun j h => nomatch h) rfl (lv_sub hl [0, 1, 2, 3] rfl)

set_option maxHeartbeats 4000000 in
set_option maxRecDepth 100000 in
theorem c_T_afterStep (l : Launch) (dC : Nat → ClassId) (dI : Nat → Nat → Nat) (ad : Nat → Nat) (k : Nat → ClassId) (T : TS) (v q x z : Int64)  : Met l yT_afterStep wT_afterStep ({ frames := 0, cells := 0, slots := 0, locals := 0 }) (rPc [.ref (ad 0), .long v, .long q, .long x, .long z] (dC, dI) vwCl (TW ad k T) (TK k) xT) (rQ (some (.long (afM T.d v q x z)))) 0 0 (fun _ => False) := by
  refine Met.ofW (cc := bT_afterStep) (maxL := 9) (ret := (some .long)) (by decide) rfl ?_
  intro p e s m args below meth c s₁ B hml hv
  obtain ⟨rfl, hP, hK, hX⟩ := hv
  have hx := B.exec
  have hb := B.bytes
  have hr := B.returns
  have hts := atoms_spec (ws := wT_afterStep) B.pre
  have hta : ∀ w ∈ AW, w.before _ s = true := fun w h => hts w (List.mem_cons_of_mem _ h)
  have hown : s.vm.findClass RT = some m.cls := findClass_of_methodNamed B.named
  have hlocks := B.notSynchronized
  have hl := lv_entry ([.ref (ad 0), .long v, .long q, .long x, .long z]) (n := 9) (Nat.le_of_ble_eq_true rfl)
  rw [lg_entry_eq]
  generalize (lg_sl ([.ref (ad 0), .long v, .long q, .long x, .long z]) ++ List.replicate (9 - (lg_sl ([.ref (ad 0), .long v, .long q, .long x, .long z])).length) Slot.unset).toArray = ls at hl ⊢
  have hl : lv_has ls 9 [(0, .ref (ad 0)), (1, .long v), (3, .long q), (5, .long x), (7, .long z)] := hl
  refine lv_aload_n hx hb dT_afterStep_0 rfl (lv_at hl 0 rfl) ?_
  refine va_get (D := (dC, dI)) (ci := 0) (v := .long T.d) (C := RT) (T := FT) (N := 8) hx hb hta iT hown hK hP 0 rfl rfl 7 (by decide) (hta _ m_36) (fun _ h9 => h9) rfl dT_afterStep_1 ?_
  refine lv_lconst (v := 0) hx hb dT_afterStep_4 (by decide) ?_
  refine ll_ne (tgt := 13) hx hb dT_afterStep_5 dT_afterStep_6 (by decide) (fun h1 => ?_) (fun h1 => ?_)
  · refine lv_lload_n hx hb dT_afterStep_13 rfl (lv_at hl 1 rfl) ?_
    refine lv_lload_n hx hb dT_afterStep_14 rfl (lv_at hl 2 rfl) ?_
    refine lv_lmul hx hb dT_afterStep_15 ?_
    refine lv_lload hx hb dT_afterStep_16 (lv_at hl 3 rfl) ?_
    refine lv_lload hx hb dT_afterStep_18 (lv_at hl 4 rfl) ?_
    refine lv_lmul hx hb dT_afterStep_20 ?_
    refine lv_lsub hx hb dT_afterStep_21 ?_
    refine lv_aload_n hx hb dT_afterStep_22 rfl (lv_at hl 0 rfl) ?_
    refine va_get (D := (dC, dI)) (ci := 0) (v := .long T.d) (C := RT) (T := FT) (N := 8) hx hb hta iT hown hK hP 0 rfl rfl 7 (by decide) (hta _ m_36) (fun _ h9 => h9) rfl dT_afterStep_23 ?_
    refine lv_ldiv hx hb dT_afterStep_26 (h1) ?_
    exact W.lret (v := ((v * q) - (x * z)) / T.d) hx hb hr (fun t ht hW => ⟨congrArg (fun z => Outcome.returned (some (.long z))) (by simp [afM, h1]), ht⟩) (fun q h => nomatch h) dT_afterStep_27
  · refine lv_lconst (v := 0) hx hb dT_afterStep_9 (by decide) ?_
    refine lv_goto (tgt := 27) hx hb dT_afterStep_10 (by decide) ?_
    exact W.lret (v := 0) hx hb hr (fun t ht hW => ⟨congrArg (fun z => Outcome.returned (some (.long z))) (by simp [afM, h1]), ht⟩) (fun q h => nomatch h) dT_afterStep_27

set_option maxHeartbeats 4000000 in
set_option maxRecDepth 100000 in
theorem c_T_otherFits (l : Launch) (dC : Nat → ClassId) (dI : Nat → Nat → Nat) (ad : Nat → Nat) (k : Nat → ClassId) (T : TS) (i le en : Nat) (hw : T.w ≤ 12) (hi : i < 25) (hle : le < 25) (hen : en < 13) : Met l yT_otherFits wT_otherFits ({ frames := 1, cells := 0, slots := 0, locals := 28 }) (rPc [.ref (ad 0), .int (nI i), .int (nI le), .int (nI en)] (dC, dI) vwCl (TW ad k T) (TK k) xT) (rQ (some (.int (bI (otM T i le en 0 (T.w + 1)))))) 0 0 (fun _ => False) := by
  refine Met.ofW (cc := bT_otherFits) (maxL := 9) (ret := (some .boolean)) (by decide) rfl ?_
  intro p e s m args below meth c s₁ B hml hv
  obtain ⟨rfl, hP, hK, hX⟩ := hv
  have hx := B.exec
  have hb := B.bytes
  have hr := B.returns
  have hts := atoms_spec (ws := wT_otherFits) B.pre
  have hta : ∀ w ∈ AW, w.before _ s = true := fun w h => hts w (List.mem_cons_of_mem _ h)
  have hown : s.vm.findClass RT = some m.cls := findClass_of_methodNamed B.named
  have hlocks := B.notSynchronized
  have hl := lv_entry ([.ref (ad 0), .int (nI i), .int (nI le), .int (nI en)]) (n := 9) (Nat.le_of_ble_eq_true rfl)
  rw [lg_entry_eq]
  generalize (lg_sl ([.ref (ad 0), .int (nI i), .int (nI le), .int (nI en)]) ++ List.replicate (9 - (lg_sl ([.ref (ad 0), .int (nI i), .int (nI le), .int (nI en)])).length) Slot.unset).toArray = ls at hl ⊢
  have hl : lv_has ls 9 [(0, .ref (ad 0)), (1, .int (nI i)), (2, .int (nI le)), (3, .int (nI en))] := hl
  refine lv_aload_n hx hb dT_otherFits_0 rfl (lv_at hl 0 rfl) ?_
  refine lv_iload_n hx hb dT_otherFits_1 rfl (lv_at hl 2 rfl) ?_
  refine lv_iload_n hx hb dT_otherFits_2 rfl (lv_at hl 3 rfl) ?_
  refine rd_call (va_runV (As := [.int (nI le), .int (nI en)]) (rest := []) ⟨hx, hb, hml, hown, hta⟩ (c_T_cell l dC dI ad k T le en (by first | omega | exact hw | exact hh)) (cwV 2 hta (gV m_123 m_125 mp_4 m_2 m_126) rfl rfl rfl (by decide +kernel) ⟨Nat.le_of_ble_eq_true rfl, Nat.le_of_ble_eq_true rfl⟩) (rd_V xT_ok trivial hK hP (ci := 0) (q0 := 0) rfl rfl) rfl rfl hl.1 rfl (lv_room (Nat.le_of_ble_eq_true rfl)) dT_otherFits_3 ⟨Nat.zero_le _, Nat.zero_le _⟩) ?_
  refine W.eq (g2 := F0 m 6 ls [.long (T.C (le * 13 + en))]) rfl ?_
  refine lv_lstore (lv' := [(4, .long (T.C (le * 13 + en))), (0, .ref (ad 0)), (1, .int (nI i)), (2, .int (nI le)), (3, .int (nI en))]) hx hb dT_otherFits_6 hl (by decide) rfl (fun ls hl => ?_)
  refine lv_aload_n hx hb dT_otherFits_8 rfl (lv_at hl 1 rfl) ?_
  refine lv_iload_n hx hb dT_otherFits_9 rfl (lv_at hl 2 rfl) ?_
  refine lv_iload_n hx hb dT_otherFits_10 rfl (lv_at hl 4 rfl) ?_
  refine rd_call (va_runV (As := [.int (nI i), .int (nI en)]) (rest := []) ⟨hx, hb, hml, hown, hta⟩ (c_T_cell l dC dI ad k T i en (by first | omega | exact hw | exact hh)) (cwV 2 hta (gV m_123 m_125 mp_4 m_2 m_126) rfl rfl rfl (by decide +kernel) ⟨Nat.le_of_ble_eq_true rfl, Nat.le_of_ble_eq_true rfl⟩) (rd_V xT_ok trivial hK hP (ci := 0) (q0 := 0) rfl rfl) rfl rfl hl.1 rfl (lv_room (Nat.le_of_ble_eq_true rfl)) dT_otherFits_11 ⟨Nat.zero_le _, Nat.zero_le _⟩) ?_
  refine W.eq (g2 := F0 m 14 ls [.long (T.C (i * 13 + en))]) rfl ?_
  refine lv_lstore (lv' := [(6, .long (T.C (i * 13 + en))), (4, .long (T.C (le * 13 + en))), (0, .ref (ad 0)), (1, .int (nI i)), (2, .int (nI le)), (3, .int (nI en))]) hx hb dT_otherFits_14 hl (by decide) rfl (fun ls hl => ?_)
  refine lv_iconst (v := nI 0) hx hb dT_otherFits_16 (by decide) ?_
  refine lv_istore (lv' := [(8, .int (nI 0)), (6, .long (T.C (i * 13 + en))), (4, .long (T.C (le * 13 + en))), (0, .ref (ad 0)), (1, .int (nI i)), (2, .int (nI le)), (3, .int (nI en))]) hx hb dT_otherFits_17 hl (by decide) rfl (fun ls hl => ?_)
  have loop19 : ∀ (n : Nat) (j : Nat) (ls : Array Slot), (j + n = T.w + 1) → (otM T i le en j n = otM T i le en 0 (T.w + 1)) → lv_has ls 9 [(8, .int (nI j)), (6, .long (T.C (i * 13 + en))), (4, .long (T.C (le * 13 + en))), (0, .ref (ad 0)), (1, .int (nI i)), (2, .int (nI le)), (3, .int (nI en))] → W p l e (headSpec wT_otherFits ({ frames := 1, cells := 0, slots := 0, locals := 28 })).room s m ([.ref (ad 0), .int (nI i), .int (nI le), .int (nI en)] : List Value).toArray below meth c s.heap [] 0 0 (MQ below (rQ (some (.int (bI (otM T i le en 0 (T.w + 1)))))) ([.ref (ad 0), .int (nI i), .int (nI le), .int (nI en)] : List Value).toArray s 0 0 (fun _ => False)) (F0 m 19 ls []) := by
    intro n
    induction n with
    | zero =>
      intro j ls hn hq hl
      refine lv_iload hx hb dT_otherFits_19 (lv_at hl 0 rfl) ?_
      refine lv_aload_n hx hb dT_otherFits_21 rfl (lv_at hl 3 rfl) ?_
      refine va_get (D := (dC, dI)) (ci := 0) (v := .int (nI T.w)) (C := RT) (T := FT) (N := 8) hx hb hta iT hown hK hP 0 rfl rfl 5 (by decide) (hta _ m_32) (fun _ h9 => h9) rfl dT_otherFits_22 ?_
      refine ni_gt (tgt := 70) hx hb dT_otherFits_25 (by decide) (by omega) (by omega) (fun c_1 => ?_) (fun c_1 => ?_)
      · refine lv_iconst (v := 1) hx hb dT_otherFits_70 (by decide) ?_
        exact W.zret (v := 1) hx hb hr (rfl) (fun t ht hW => ⟨congrArg (fun z => Outcome.returned (some (.int z))) (by rw [← hq]; rfl), ht⟩) (fun q h => nomatch h) dT_otherFits_71
      · exfalso; omega
    | succ n ih =>
      intro j ls hn hq hl
      refine lv_iload hx hb dT_otherFits_19 (lv_at hl 0 rfl) ?_
      refine lv_aload_n hx hb dT_otherFits_21 rfl (lv_at hl 3 rfl) ?_
      refine va_get (D := (dC, dI)) (ci := 0) (v := .int (nI T.w)) (C := RT) (T := FT) (N := 8) hx hb hta iT hown hK hP 0 rfl rfl 5 (by decide) (hta _ m_32) (fun _ h9 => h9) rfl dT_otherFits_22 ?_
      refine ni_gt (tgt := 70) hx hb dT_otherFits_25 (by decide) (by omega) (by omega) (fun c_2 => ?_) (fun c_2 => ?_)
      · exfalso; omega
      · refine lv_iload hx hb dT_otherFits_28 (lv_at hl 0 rfl) ?_
        refine lv_iload_n hx hb dT_otherFits_30 rfl (lv_at hl 6 rfl) ?_
        refine ni_eq (tgt := 64) hx hb dT_otherFits_31 (by decide) (by omega) (by omega) (fun h1 => ?_) (fun h1 => ?_)
        · refine lv_iinc (v := nI (j + 1)) (lv' := [(8, .int (nI (j + 1))), (6, .long (T.C (i * 13 + en))), (4, .long (T.C (le * 13 + en))), (0, .ref (ad 0)), (1, .int (nI i)), (2, .int (nI le)), (3, .int (nI en))]) hx hb dT_otherFits_64 hl (k := 0) rfl (nI_add j 1) (by decide) rfl (fun ls hl => ?_)
          refine lv_goto (tgt := 19) hx hb dT_otherFits_67 (by decide) ?_
          exact ih (j + 1) ls (by omega) (by rw [← hq]; simp_all [otM]) (lv_sub hl [0, 1, 2, 3, 4, 5, 6] rfl)
        · refine lv_aload_n hx hb dT_otherFits_34 rfl (lv_at hl 3 rfl) ?_
          refine lv_aload_n hx hb dT_otherFits_35 rfl (lv_at hl 3 rfl) ?_
          refine lv_iload_n hx hb dT_otherFits_36 rfl (lv_at hl 4 rfl) ?_
          refine lv_iload hx hb dT_otherFits_37 (lv_at hl 0 rfl) ?_
          refine rd_call (va_runV (As := [.int (nI i), .int (nI j)]) (rest := [.ref (ad 0)]) ⟨hx, hb, hml, hown, hta⟩ (c_T_cell l dC dI ad k T i j (by first | omega | exact hw | exact hh)) (cwV 2 hta (gV m_123 m_125 mp_4 m_2 m_126) rfl rfl rfl (by decide +kernel) ⟨Nat.le_of_ble_eq_true rfl, Nat.le_of_ble_eq_true rfl⟩) (rd_V xT_ok trivial hK hP (ci := 0) (q0 := 0) rfl rfl) rfl rfl hl.1 rfl (lv_room (Nat.le_of_ble_eq_true rfl)) dT_otherFits_39 ⟨Nat.zero_le _, Nat.zero_le _⟩) ?_
          refine W.eq (g2 := F0 m 42 ls [.long (T.C (i * 13 + j)), .ref (ad 0)]) rfl ?_
          refine lv_lload hx hb dT_otherFits_42 (lv_at hl 2 rfl) ?_
          refine lv_lload hx hb dT_otherFits_44 (lv_at hl 1 rfl) ?_
          refine lv_aload_n hx hb dT_otherFits_46 rfl (lv_at hl 3 rfl) ?_
          refine lv_iload_n hx hb dT_otherFits_47 rfl (lv_at hl 5 rfl) ?_
          refine lv_iload hx hb dT_otherFits_48 (lv_at hl 0 rfl) ?_
          refine rd_call (va_runV (As := [.int (nI le), .int (nI j)]) (rest := [.long (T.C (i * 13 + en)), .long (T.C (le * 13 + en)), .long (T.C (i * 13 + j)), .ref (ad 0)]) ⟨hx, hb, hml, hown, hta⟩ (c_T_cell l dC dI ad k T le j (by first | omega | exact hw | exact hh)) (cwV 2 hta (gV m_123 m_125 mp_4 m_2 m_126) rfl rfl rfl (by decide +kernel) ⟨Nat.le_of_ble_eq_true rfl, Nat.le_of_ble_eq_true rfl⟩) (rd_V xT_ok trivial hK hP (ci := 0) (q0 := 0) rfl rfl) rfl rfl hl.1 rfl (lv_room (Nat.le_of_ble_eq_true rfl)) dT_otherFits_50 ⟨Nat.zero_le _, Nat.zero_le _⟩) ?_
          refine W.eq (g2 := F0 m 53 ls [.long (T.C (le * 13 + j)), .long (T.C (i * 13 + en)), .long (T.C (le * 13 + en)), .long (T.C (i * 13 + j)), .ref (ad 0)]) rfl ?_
          refine rd_call (va_runV (As := [.long (T.C (i * 13 + j)), .long (T.C (le * 13 + en)), .long (T.C (i * 13 + en)), .long (T.C (le * 13 + j))]) (rest := []) ⟨hx, hb, hml, hown, hta⟩ (c_T_afterStep l dC dI ad k T (T.C (i * 13 + j)) (T.C (le * 13 + en)) (T.C (i * 13 + en)) (T.C (le * 13 + j))) (cwV 4 hta (gV m_414 m_416 mp_33 m_2 m_417) rfl rfl rfl (by decide +kernel) ⟨Nat.le_of_ble_eq_true rfl, Nat.le_of_ble_eq_true rfl⟩) (rd_V xT_ok trivial hK hP (ci := 0) (q0 := 0) rfl rfl) rfl rfl hl.1 rfl (lv_room (Nat.le_of_ble_eq_true rfl)) dT_otherFits_53 ⟨Nat.zero_le _, Nat.zero_le _⟩) ?_
          refine W.eq (g2 := F0 m 56 ls [.long (afM T.d (T.C (i * 13 + j)) (T.C (le * 13 + en)) (T.C (i * 13 + en)) (T.C (le * 13 + j)))]) rfl ?_
          refine rd_call (va_runS (As := [.long (afM T.d (T.C (i * 13 + j)) (T.C (le * 13 + en)) (T.C (i * 13 + en)) (T.C (le * 13 + j)))]) (rest := []) ⟨hx, hb, hml, hown, hta⟩ (c_T_fits l dC dI ad k (afM T.d (T.C (i * 13 + j)) (T.C (le * 13 + en)) (T.C (i * 13 + en)) (T.C (le * 13 + j)))) (cwS 1 hta (gS m_350 m_351 m_2 m_352) rfl rfl rfl (by decide +kernel) ⟨Nat.le_of_ble_eq_true rfl, Nat.le_of_ble_eq_true rfl⟩) (rd_S xT_ok trivial (hK.sub [] rfl) va_P_nil) rfl rfl hl.1 rfl (lv_room (Nat.le_of_ble_eq_true rfl)) dT_otherFits_56 ⟨Nat.zero_le _, Nat.zero_le _⟩) ?_
          refine W.eq (g2 := F0 m 59 ls [.int (bI (fits9 (afM T.d (T.C (i * 13 + j)) (T.C (le * 13 + en)) (T.C (i * 13 + en)) (T.C (le * 13 + j)))))]) rfl ?_
          refine lb_ne (tgt := 64) hx hb dT_otherFits_59 (by decide) (fun h2 => ?_) (fun h2 => ?_)
          · refine lv_iinc (v := nI (j + 1)) (lv' := [(8, .int (nI (j + 1))), (6, .long (T.C (i * 13 + en))), (4, .long (T.C (le * 13 + en))), (0, .ref (ad 0)), (1, .int (nI i)), (2, .int (nI le)), (3, .int (nI en))]) hx hb dT_otherFits_64 hl (k := 0) rfl (nI_add j 1) (by decide) rfl (fun ls hl => ?_)
            refine lv_goto (tgt := 19) hx hb dT_otherFits_67 (by decide) ?_
            exact ih (j + 1) ls (by omega) (by rw [← hq]; simp_all [otM]) (lv_sub hl [0, 1, 2, 3, 4, 5, 6] rfl)
          · refine lv_iconst (v := 0) hx hb dT_otherFits_62 (by decide) ?_
            exact W.zret (v := 0) hx hb hr (rfl) (fun t ht hW => ⟨congrArg (fun z => Outcome.returned (some (.int z))) (by rw [← hq]; simp [otM, h1, h2, bI]), ht⟩) (fun q h => nomatch h) dT_otherFits_63
  exact loop19 (T.w + 1) 0 ls (by omega) rfl (lv_sub hl [0, 1, 2, 3, 4, 5, 6] rfl)

set_option maxHeartbeats 4000000 in
set_option maxRecDepth 100000 in
theorem c_T_stepFits (l : Launch) (dC : Nat → ClassId) (dI : Nat → Nat → Nat) (ad : Nat → Nat) (k : Nat → ClassId) (T : TS) (le en : Nat) (hw : T.w ≤ 12) (hh : T.h ≤ 24) (hle : le < 25) (hen : en < 13) : Met l yT_stepFits wT_stepFits ({ frames := 2, cells := 0, slots := 0, locals := 56 }) (rPc [.ref (ad 0), .int (nI le), .int (nI en)] (dC, dI) vwCl (TW ad k T) (TK k) xT) (rQ (some (.int (bI (sfM T le en 0 (T.h + 1)))))) 0 0 (fun _ => False) := by
  refine Met.ofW (cc := bT_stepFits) (maxL := 4) (ret := (some .boolean)) (by decide) rfl ?_
  intro p e s m args below meth c s₁ B hml hv
  obtain ⟨rfl, hP, hK, hX⟩ := hv
  have hx := B.exec
  have hb := B.bytes
  have hr := B.returns
  have hts := atoms_spec (ws := wT_stepFits) B.pre
  have hta : ∀ w ∈ AW, w.before _ s = true := fun w h => hts w (List.mem_cons_of_mem _ h)
  have hown : s.vm.findClass RT = some m.cls := findClass_of_methodNamed B.named
  have hlocks := B.notSynchronized
  have hl := lv_entry ([.ref (ad 0), .int (nI le), .int (nI en)]) (n := 4) (Nat.le_of_ble_eq_true rfl)
  rw [lg_entry_eq]
  generalize (lg_sl ([.ref (ad 0), .int (nI le), .int (nI en)]) ++ List.replicate (4 - (lg_sl ([.ref (ad 0), .int (nI le), .int (nI en)])).length) Slot.unset).toArray = ls at hl ⊢
  have hl : lv_has ls 4 [(0, .ref (ad 0)), (1, .int (nI le)), (2, .int (nI en))] := hl
  refine lv_iconst (v := nI 0) hx hb dT_stepFits_0 (by decide) ?_
  refine lv_istore_n (lv' := [(3, .int (nI 0)), (0, .ref (ad 0)), (1, .int (nI le)), (2, .int (nI en))]) hx hb dT_stepFits_1 rfl hl (by decide) rfl (fun ls hl => ?_)
  have loop2 : ∀ (n : Nat) (i : Nat) (ls : Array Slot), (i + n = T.h + 1) → (sfM T le en i n = sfM T le en 0 (T.h + 1)) → lv_has ls 4 [(3, .int (nI i)), (0, .ref (ad 0)), (1, .int (nI le)), (2, .int (nI en))] → W p l e (headSpec wT_stepFits ({ frames := 2, cells := 0, slots := 0, locals := 56 })).room s m ([.ref (ad 0), .int (nI le), .int (nI en)] : List Value).toArray below meth c s.heap [] 0 0 (MQ below (rQ (some (.int (bI (sfM T le en 0 (T.h + 1)))))) ([.ref (ad 0), .int (nI le), .int (nI en)] : List Value).toArray s 0 0 (fun _ => False)) (F0 m 2 ls []) := by
    intro n
    induction n with
    | zero =>
      intro i ls hn hq hl
      refine lv_iload_n hx hb dT_stepFits_2 rfl (lv_at hl 0 rfl) ?_
      refine lv_aload_n hx hb dT_stepFits_3 rfl (lv_at hl 1 rfl) ?_
      refine va_get (D := (dC, dI)) (ci := 0) (v := .int (nI T.h)) (C := RT) (T := FT) (N := 8) hx hb hta iT hown hK hP 0 rfl rfl 6 (by decide) (hta _ m_34) (fun _ h9 => h9) rfl dT_stepFits_4 ?_
      refine ni_gt (tgt := 33) hx hb dT_stepFits_7 (by decide) (by omega) (by omega) (fun c_1 => ?_) (fun c_1 => ?_)
      · refine lv_iconst (v := 1) hx hb dT_stepFits_33 (by decide) ?_
        exact W.zret (v := 1) hx hb hr (rfl) (fun t ht hW => ⟨congrArg (fun z => Outcome.returned (some (.int z))) (by rw [← hq]; rfl), ht⟩) (fun q h => nomatch h) dT_stepFits_34
      · exfalso; omega
    | succ n ih =>
      intro i ls hn hq hl
      refine lv_iload_n hx hb dT_stepFits_2 rfl (lv_at hl 0 rfl) ?_
      refine lv_aload_n hx hb dT_stepFits_3 rfl (lv_at hl 1 rfl) ?_
      refine va_get (D := (dC, dI)) (ci := 0) (v := .int (nI T.h)) (C := RT) (T := FT) (N := 8) hx hb hta iT hown hK hP 0 rfl rfl 6 (by decide) (hta _ m_34) (fun _ h9 => h9) rfl dT_stepFits_4 ?_
      refine ni_gt (tgt := 33) hx hb dT_stepFits_7 (by decide) (by omega) (by omega) (fun c_2 => ?_) (fun c_2 => ?_)
      · exfalso; omega
      · refine lv_iload_n hx hb dT_stepFits_10 rfl (lv_at hl 0 rfl) ?_
        refine lv_iload_n hx hb dT_stepFits_11 rfl (lv_at hl 2 rfl) ?_
        refine ni_eq (tgt := 27) hx hb dT_stepFits_12 (by decide) (by omega) (by omega) (fun h1 => ?_) (fun h1 => ?_)
        · refine lv_iinc (v := nI (i + 1)) (lv' := [(3, .int (nI (i + 1))), (0, .ref (ad 0)), (1, .int (nI le)), (2, .int (nI en))]) hx hb dT_stepFits_27 hl (k := 0) rfl (nI_add i 1) (by decide) rfl (fun ls hl => ?_)
          refine lv_goto (tgt := 2) hx hb dT_stepFits_30 (by decide) ?_
          exact ih (i + 1) ls (by omega) (by rw [← hq]; simp_all [sfM]) (lv_sub hl [0, 1, 2, 3] rfl)
        · refine lv_aload_n hx hb dT_stepFits_15 rfl (lv_at hl 1 rfl) ?_
          refine lv_iload_n hx hb dT_stepFits_16 rfl (lv_at hl 0 rfl) ?_
          refine lv_iload_n hx hb dT_stepFits_17 rfl (lv_at hl 2 rfl) ?_
          refine lv_iload_n hx hb dT_stepFits_18 rfl (lv_at hl 3 rfl) ?_
          refine rd_call (va_runV (As := [.int (nI i), .int (nI le), .int (nI en)]) (rest := []) ⟨hx, hb, hml, hown, hta⟩ (c_T_otherFits l dC dI ad k T i le en (by first | omega | exact hw | exact hh) (by first | omega | exact hw | exact hh) (by first | omega | exact hw | exact hh) (by first | omega | exact hw | exact hh)) (cwV 3 hta (gV m_410 m_412 mp_32 m_2 m_413) rfl rfl rfl (by decide +kernel) ⟨Nat.le_of_ble_eq_true rfl, Nat.le_of_ble_eq_true rfl⟩) (rd_V xT_ok trivial hK hP (ci := 0) (q0 := 0) rfl rfl) rfl rfl hl.1 rfl (lv_room (Nat.le_of_ble_eq_true rfl)) dT_stepFits_19 ⟨Nat.zero_le _, Nat.zero_le _⟩) ?_
          refine W.eq (g2 := F0 m 22 ls [.int (bI (otM T i le en 0 (T.w + 1)))]) rfl ?_
          refine lb_ne (tgt := 27) hx hb dT_stepFits_22 (by decide) (fun h2 => ?_) (fun h2 => ?_)
          · refine lv_iinc (v := nI (i + 1)) (lv' := [(3, .int (nI (i + 1))), (0, .ref (ad 0)), (1, .int (nI le)), (2, .int (nI en))]) hx hb dT_stepFits_27 hl (k := 0) rfl (nI_add i 1) (by decide) rfl (fun ls hl => ?_)
            refine lv_goto (tgt := 2) hx hb dT_stepFits_30 (by decide) ?_
            exact ih (i + 1) ls (by omega) (by rw [← hq]; simp_all [sfM]) (lv_sub hl [0, 1, 2, 3] rfl)
          · refine lv_iconst (v := 0) hx hb dT_stepFits_25 (by decide) ?_
            exact W.zret (v := 0) hx hb hr (rfl) (fun t ht hW => ⟨congrArg (fun z => Outcome.returned (some (.int z))) (by rw [← hq]; simp [sfM, h1, h2, bI]), ht⟩) (fun q h => nomatch h) dT_stepFits_26
  exact loop2 (T.h + 1) 0 ls (by omega) rfl (lv_sub hl [0, 1, 2, 3] rfl)
