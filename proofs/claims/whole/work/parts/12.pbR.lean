set_option maxHeartbeats 4000000 in
set_option maxRecDepth 100000 in
theorem c_P_factorPlace (l : Launch) (dC : Nat → ClassId) (dI : Nat → Nat → Nat) (ad : Nat → Nat) (k : Nat → ClassId) (r j : Nat)  : Met l yP_factorPlace wP_factorPlace ({ frames := 0, cells := 0, slots := 0, locals := 0 }) (rPc [.int (nI r), .int (nI j)] (dC, dI) vwCl ([]) ([]) xT) (rQ (some (.int (nI (r * 12 + j))))) 0 0 (fun _ => False) := by
  refine Met.ofW (cc := bP_factorPlace) (maxL := 2) (ret := (some .int)) (by decide) rfl ?_
  intro p e s m args below meth c s₁ B hml hv
  obtain ⟨rfl, hP, hK, hX⟩ := hv
  have hx := B.exec
  have hb := B.bytes
  have hr := B.returns
  have hts := atoms_spec (ws := wP_factorPlace) B.pre
  have hta : ∀ w ∈ AW, w.before _ s = true := fun w h => hts w (List.mem_cons_of_mem _ h)
  have hown : s.vm.findClass RP = some m.cls := findClass_of_methodNamed B.named
  have hlocks := B.notSynchronized
  have hl := lv_entry ([.int (nI r), .int (nI j)]) (n := 2) (Nat.le_of_ble_eq_true rfl)
  rw [lg_entry_eq]
  generalize (lg_sl ([.int (nI r), .int (nI j)]) ++ List.replicate (2 - (lg_sl ([.int (nI r), .int (nI j)])).length) Slot.unset).toArray = ls at hl ⊢
  have hl : lv_has ls 2 [(0, .int (nI r)), (1, .int (nI j))] := hl
  refine lv_iload_n hx hb dP_factorPlace_0 rfl (lv_at hl 0 rfl) ?_
  refine lv_bipush (v := nI 12) hx hb dP_factorPlace_1 (by decide) ?_
  refine lv_imul hx hb dP_factorPlace_3 ?_
  refine st_i (y := nI (r * 12)) (pk_mul _ _) ?_
  refine lv_iload_n hx hb dP_factorPlace_4 rfl (lv_at hl 1 rfl) ?_
  refine lv_iadd hx hb dP_factorPlace_5 ?_
  refine st_i (y := nI ((r * 12) + j)) (nI_add _ _) ?_
  exact W.iret (v := nI ((r * 12) + j)) hx hb hr (fun t ht hW => ⟨rfl, ht⟩) (fun q h => nomatch h) dP_factorPlace_6

set_option maxHeartbeats 4000000 in
set_option maxRecDepth 100000 in
theorem c_P_rowsOfWeek (l : Launch) (dC : Nat → ClassId) (dI : Nat → Nat → Nat) (ad : Nat → Nat) (k : Nat → ClassId) (P : PS) (F : Nat → Int32) (T : TS) (v : Int32) (hro : P.rows ≤ 12) : Met l yP_rowsOfWeek wP_rowsOfWeek ({ frames := 0, cells := 0, slots := 0, locals := 0 }) (rPc [.ref (ad 7), .int v] (dC, dI) vwCl (PW ad k P ++ (FW ad k F ++ TW ad k T)) (PK k ++ (FK k ++ TK k)) nW) (rQ (some (.int (nI (rwL P.V v 0 P.rows 0))))) 0 0 (fun _ => False) := by
  refine Met.ofW (cc := bP_rowsOfWeek) (maxL := 4) (ret := (some .int)) (by decide) rfl ?_
  intro p e s m args below meth c s₁ B hml hv
  obtain ⟨rfl, hP, hK, hX⟩ := hv
  have hx := B.exec
  have hb := B.bytes
  have hr := B.returns
  have hts := atoms_spec (ws := wP_rowsOfWeek) B.pre
  have hta : ∀ w ∈ AW, w.before _ s = true := fun w h => hts w (List.mem_cons_of_mem _ h)
  have hown : s.vm.findClass RP = some m.cls := findClass_of_methodNamed B.named
  have hlocks := B.notSynchronized
  have hl := lv_entry ([.ref (ad 7), .int v]) (n := 4) (Nat.le_of_ble_eq_true rfl)
  rw [lg_entry_eq]
  generalize (lg_sl ([.ref (ad 7), .int v]) ++ List.replicate (4 - (lg_sl ([.ref (ad 7), .int v])).length) Slot.unset).toArray = ls at hl ⊢
  have hl : lv_has ls 4 [(0, .ref (ad 7)), (1, .int v)] := hl
  refine lv_iconst (v := nI 0) hx hb dP_rowsOfWeek_0 (by decide) ?_
  refine lv_istore_n (lv' := [(2, .int (nI 0)), (0, .ref (ad 7)), (1, .int v)]) hx hb dP_rowsOfWeek_1 rfl hl (by decide) rfl (fun ls hl => ?_)
  refine lv_iconst (v := nI 0) hx hb dP_rowsOfWeek_2 (by decide) ?_
  refine lv_istore_n (lv' := [(3, .int (nI 0)), (2, .int (nI 0)), (0, .ref (ad 7)), (1, .int v)]) hx hb dP_rowsOfWeek_3 rfl hl (by decide) rfl (fun ls hl => ?_)
  have loop4 : ∀ (n : Nat) (i : Nat) (f : Nat) (ls : Array Slot), (i + n = P.rows) → (rwL P.V v i n f = rwL P.V v 0 P.rows 0) → lv_has ls 4 [(3, .int (nI i)), (2, .int (nI f)), (0, .ref (ad 7)), (1, .int v)] → W p l e (headSpec wP_rowsOfWeek ({ frames := 0, cells := 0, slots := 0, locals := 0 })).room s m ([.ref (ad 7), .int v] : List Value).toArray below meth c s.heap [] 0 0 (MQ below (rQ (some (.int (nI (rwL P.V v 0 P.rows 0))))) ([.ref (ad 7), .int v] : List Value).toArray s 0 0 (fun _ => False)) (F0 m 4 ls []) := by
    intro n
    induction n with
    | zero =>
      intro i f ls hn hq hl
      refine lv_iload_n hx hb dP_rowsOfWeek_4 rfl (lv_at hl 0 rfl) ?_
      refine lv_aload_n hx hb dP_rowsOfWeek_5 rfl (lv_at hl 2 rfl) ?_
      refine va_get (D := (dC, dI)) (ci := 1) (v := .int (nI P.rows)) (C := RP) (T := FP) (N := 12) hx hb hta iP hown hK hP 0 rfl rfl 7 (by decide) (hta _ m_70) (fun _ h9 => h9) rfl dP_rowsOfWeek_6 ?_
      refine ni_ge (tgt := 31) hx hb dP_rowsOfWeek_9 (by decide) (by omega) (by omega) (fun c_1 => ?_) (fun c_1 => ?_)
      · refine lv_iload_n hx hb dP_rowsOfWeek_31 rfl (lv_at hl 1 rfl) ?_
        exact W.iret (v := nI f) hx hb hr (fun t ht hW => ⟨congrArg (fun z => Outcome.returned (some (.int z))) (by rw [← hq]; rfl), ht⟩) (fun q h => nomatch h) dP_rowsOfWeek_32
      · exfalso; omega
    | succ n ih =>
      intro i f ls hn hq hl
      refine lv_iload_n hx hb dP_rowsOfWeek_4 rfl (lv_at hl 0 rfl) ?_
      refine lv_aload_n hx hb dP_rowsOfWeek_5 rfl (lv_at hl 2 rfl) ?_
      refine va_get (D := (dC, dI)) (ci := 1) (v := .int (nI P.rows)) (C := RP) (T := FP) (N := 12) hx hb hta iP hown hK hP 0 rfl rfl 7 (by decide) (hta _ m_70) (fun _ h9 => h9) rfl dP_rowsOfWeek_6 ?_
      refine ni_ge (tgt := 31) hx hb dP_rowsOfWeek_9 (by decide) (by omega) (by omega) (fun c_2 => ?_) (fun c_2 => ?_)
      · exfalso; omega
      · refine lv_aload_n hx hb dP_rowsOfWeek_12 rfl (lv_at hl 2 rfl) ?_
        refine va_get (D := (dC, dI)) (ci := 1) (v := .ref (ad 9)) (C := RP) (T := FP) (N := 12) hx hb hta iP hown hK hP 0 rfl rfl 2 (by decide) (hta _ m_65) (fun _ h9 => h9) rfl dP_rowsOfWeek_13 ?_
        refine lv_iload_n hx hb dP_rowsOfWeek_16 rfl (lv_at hl 0 rfl) ?_
        refine na_iald hx hb hK hP 2 1 rfl rfl (i := i) (by omega) (by decide) dP_rowsOfWeek_17 ?_
        refine lv_iload_n hx hb dP_rowsOfWeek_18 rfl (lv_at hl 3 rfl) ?_
        refine lv_icmp_ne (tgt := 25) hx hb dP_rowsOfWeek_19 (by decide) (fun hc => ?_) (fun hc => ?_)
        · refine lv_iinc (v := nI (i + 1)) (lv' := [(3, .int (nI (i + 1))), (2, .int (nI f)), (0, .ref (ad 7)), (1, .int v)]) hx hb dP_rowsOfWeek_25 hl (k := 0) rfl (nI_add i 1) (by decide) rfl (fun ls hl => ?_)
          refine lv_goto (tgt := 4) hx hb dP_rowsOfWeek_28 (by decide) ?_
          exact ih (i + 1) f ls (by omega) (by rw [← hq]; simp [rwL, hc]) (lv_sub hl [0, 1, 2, 3] rfl)
        · refine lv_iinc (v := nI (f + 1)) (lv' := [(2, .int (nI (f + 1))), (3, .int (nI i)), (0, .ref (ad 7)), (1, .int v)]) hx hb dP_rowsOfWeek_22 hl (k := 1) rfl (nI_add f 1) (by decide) rfl (fun ls hl => ?_)
          refine lv_iinc (v := nI (i + 1)) (lv' := [(3, .int (nI (i + 1))), (2, .int (nI (f + 1))), (0, .ref (ad 7)), (1, .int v)]) hx hb dP_rowsOfWeek_25 hl (k := 1) rfl (nI_add i 1) (by decide) rfl (fun ls hl => ?_)
          refine lv_goto (tgt := 4) hx hb dP_rowsOfWeek_28 (by decide) ?_
          exact ih (i + 1) (f + 1) ls (by omega) (by rw [← hq]; simp [rwL, hc]) (lv_sub hl [0, 1, 2, 3] rfl)
  exact loop4 P.rows 0 0 ls (by omega) rfl (lv_sub hl [0, 1, 2, 3] rfl)

set_option maxHeartbeats 4000000 in
set_option maxRecDepth 100000 in
theorem c_P_linesOf (l : Launch) (dC : Nat → ClassId) (dI : Nat → Nat → Nat) (ad : Nat → Nat) (k : Nat → ClassId) (P : PS) (F : Nat → Int32) (T : TS) (r : Nat) (hr9 : r < 12) : Met l yP_linesOf wP_linesOf ({ frames := 0, cells := 0, slots := 0, locals := 0 }) (rPc [.ref (ad 7), .int (nI r)] (dC, dI) vwCl (PW ad k P ++ (FW ad k F ++ TW ad k T)) (PK k ++ (FK k ++ TK k)) nW) (rQ (some (.int (nI (lnM P.K r))))) 0 0 (fun _ => False) := by
  refine Met.ofW (cc := bP_linesOf) (maxL := 2) (ret := (some .int)) (by decide) rfl ?_
  intro p e s m args below meth c s₁ B hml hv
  obtain ⟨rfl, hP, hK, hX⟩ := hv
  have hx := B.exec
  have hb := B.bytes
  have hr := B.returns
  have hts := atoms_spec (ws := wP_linesOf) B.pre
  have hta : ∀ w ∈ AW, w.before _ s = true := fun w h => hts w (List.mem_cons_of_mem _ h)
  have hown : s.vm.findClass RP = some m.cls := findClass_of_methodNamed B.named
  have hlocks := B.notSynchronized
  have hl := lv_entry ([.ref (ad 7), .int (nI r)]) (n := 2) (Nat.le_of_ble_eq_true rfl)
  rw [lg_entry_eq]
  generalize (lg_sl ([.ref (ad 7), .int (nI r)]) ++ List.replicate (2 - (lg_sl ([.ref (ad 7), .int (nI r)])).length) Slot.unset).toArray = ls at hl ⊢
  have hl : lv_has ls 2 [(0, .ref (ad 7)), (1, .int (nI r))] := hl
  refine lv_aload_n hx hb dP_linesOf_0 rfl (lv_at hl 0 rfl) ?_
  refine va_get (D := (dC, dI)) (ci := 1) (v := .ref (ad 8)) (C := RP) (T := FP) (N := 12) hx hb hta iP hown hK hP 0 rfl rfl 1 (by decide) (hta _ m_64) (fun _ h9 => h9) rfl dP_linesOf_1 ?_
  refine lv_iload_n hx hb dP_linesOf_4 rfl (lv_at hl 1 rfl) ?_
  refine na_iald hx hb hK hP 1 0 rfl rfl (i := r) (by omega) (by decide) dP_linesOf_5 ?_
  refine lv_iconst (v := 2) hx hb dP_linesOf_6 (by decide) ?_
  refine lv_icmp_ne (tgt := 14) hx hb dP_linesOf_7 (by decide) (fun hc => ?_) (fun hc => ?_)
  · refine lv_iconst (v := nI 1) hx hb dP_linesOf_14 (by decide) ?_
    exact W.iret (v := nI 1) hx hb hr (fun t ht hW => ⟨congrArg (fun z => Outcome.returned (some (.int z))) (by simp [lnM, hc]), ht⟩) (fun q h => nomatch h) dP_linesOf_15
  · refine lv_iconst (v := nI 2) hx hb dP_linesOf_10 (by decide) ?_
    refine lv_goto (tgt := 15) hx hb dP_linesOf_11 (by decide) ?_
    exact W.iret (v := nI 2) hx hb hr (fun t ht hW => ⟨congrArg (fun z => Outcome.returned (some (.int z))) (by simp [lnM, hc]), ht⟩) (fun q h => nomatch h) dP_linesOf_15

set_option maxHeartbeats 4000000 in
set_option maxRecDepth 100000 in
theorem c_P_linesInTable (l : Launch) (dC : Nat → ClassId) (dI : Nat → Nat → Nat) (ad : Nat → Nat) (k : Nat → ClassId) (P : PS) (F : Nat → Int32) (T : TS) (r : Nat) (hr9 : r < 12) (hri : P.rin ≤ 12) : Met l yP_linesInTable wP_linesInTable ({ frames := 1, cells := 0, slots := 0, locals := 21 }) (rPc [.ref (ad 7), .int (nI r)] (dC, dI) vwCl (PW ad k P ++ (FW ad k F ++ TW ad k T)) (PK k ++ (FK k ++ TK k)) nW) (rQ (some (.int (nI (liM P.K P.rin r))))) 0 0 (fun _ => False) := by
  refine Met.ofW (cc := bP_linesInTable) (maxL := 2) (ret := (some .int)) (by decide) rfl ?_
  intro p e s m args below meth c s₁ B hml hv
  obtain ⟨rfl, hP, hK, hX⟩ := hv
  have hx := B.exec
  have hb := B.bytes
  have hr := B.returns
  have hts := atoms_spec (ws := wP_linesInTable) B.pre
  have hta : ∀ w ∈ AW, w.before _ s = true := fun w h => hts w (List.mem_cons_of_mem _ h)
  have hown : s.vm.findClass RP = some m.cls := findClass_of_methodNamed B.named
  have hlocks := B.notSynchronized
  have hl := lv_entry ([.ref (ad 7), .int (nI r)]) (n := 2) (Nat.le_of_ble_eq_true rfl)
  rw [lg_entry_eq]
  generalize (lg_sl ([.ref (ad 7), .int (nI r)]) ++ List.replicate (2 - (lg_sl ([.ref (ad 7), .int (nI r)])).length) Slot.unset).toArray = ls at hl ⊢
  have hl : lv_has ls 2 [(0, .ref (ad 7)), (1, .int (nI r))] := hl
  refine lv_iload_n hx hb dP_linesInTable_0 rfl (lv_at hl 1 rfl) ?_
  refine lv_aload_n hx hb dP_linesInTable_1 rfl (lv_at hl 0 rfl) ?_
  refine va_get (D := (dC, dI)) (ci := 1) (v := .int (nI P.rin)) (C := RP) (T := FP) (N := 12) hx hb hta iP hown hK hP 0 rfl rfl 8 (by decide) (hta _ m_71) (fun _ h9 => h9) rfl dP_linesInTable_2 ?_
  refine ni_ge (tgt := 16) hx hb dP_linesInTable_5 (by decide) (by omega) (by omega) (fun hc => ?_) (fun hc => ?_)
  · refine lv_iconst (v := nI 0) hx hb dP_linesInTable_16 (by decide) ?_
    exact W.iret (v := nI 0) hx hb hr (fun t ht hW => ⟨congrArg (fun z => Outcome.returned (some (.int z))) (by first | (rw [liM, if_pos hc]; done) | (rw [liM, if_neg (Nat.not_lt.mpr hc)]; done)), ht⟩) (fun q h => nomatch h) dP_linesInTable_17
  · refine lv_aload_n hx hb dP_linesInTable_8 rfl (lv_at hl 0 rfl) ?_
    refine lv_iload_n hx hb dP_linesInTable_9 rfl (lv_at hl 1 rfl) ?_
    refine rd_call (va_runV (As := [.int (nI r)]) (rest := []) ⟨hx, hb, hml, hown, hta⟩ (c_P_linesOf l dC dI ad k P F T r (by first | omega | exact hw | exact hh)) (cwV 1 hta (gV m_326 m_328 mp_15 m_1 m_329) rfl rfl rfl (by decide +kernel) ⟨Nat.le_of_ble_eq_true rfl, Nat.le_of_ble_eq_true rfl⟩) (rd_V nW_ok hX hK hP (ci := 1) (q0 := 0) rfl rfl) rfl rfl hl.1 rfl (lv_room (Nat.le_of_ble_eq_true rfl)) dP_linesInTable_10 ⟨Nat.zero_le _, Nat.zero_le _⟩) ?_
    refine W.eq (g2 := F0 m 13 ls [.int (nI (lnM P.K r))]) rfl ?_
    refine lv_goto (tgt := 17) hx hb dP_linesInTable_13 (by decide) ?_
    exact W.iret (v := nI (lnM P.K r)) hx hb hr (fun t ht hW => ⟨congrArg (fun z => Outcome.returned (some (.int z))) (by first | (rw [liM, if_pos hc]; done) | (rw [liM, if_neg (Nat.not_lt.mpr hc)]; done)), ht⟩) (fun q h => nomatch h) dP_linesInTable_17

set_option maxHeartbeats 4000000 in
set_option maxRecDepth 100000 in
theorem c_P_signOf (l : Launch) (dC : Nat → ClassId) (dI : Nat → Nat → Nat) (ad : Nat → Nat) (k : Nat → ClassId) (P : PS) (F : Nat → Int32) (T : TS) (r j : Nat) (hr9 : r < 12) (hj : j < 3) : Met l yP_signOf wP_signOf ({ frames := 0, cells := 0, slots := 0, locals := 0 }) (rPc [.ref (ad 7), .int (nI r), .int (nI j)] (dC, dI) vwCl (PW ad k P ++ (FW ad k F ++ TW ad k T)) (PK k ++ (FK k ++ TK k)) nW) (rQ (some (.int (sgM P.K r j)))) 0 0 (fun _ => False) := by
  refine Met.ofW (cc := bP_signOf) (maxL := 3) (ret := (some .int)) (by decide) rfl ?_
  intro p e s m args below meth c s₁ B hml hv
  obtain ⟨rfl, hP, hK, hX⟩ := hv
  have hx := B.exec
  have hb := B.bytes
  have hr := B.returns
  have hts := atoms_spec (ws := wP_signOf) B.pre
  have hta : ∀ w ∈ AW, w.before _ s = true := fun w h => hts w (List.mem_cons_of_mem _ h)
  have hown : s.vm.findClass RP = some m.cls := findClass_of_methodNamed B.named
  have hlocks := B.notSynchronized
  have hl := lv_entry ([.ref (ad 7), .int (nI r), .int (nI j)]) (n := 3) (Nat.le_of_ble_eq_true rfl)
  rw [lg_entry_eq]
  generalize (lg_sl ([.ref (ad 7), .int (nI r), .int (nI j)]) ++ List.replicate (3 - (lg_sl ([.ref (ad 7), .int (nI r), .int (nI j)])).length) Slot.unset).toArray = ls at hl ⊢
  have hl : lv_has ls 3 [(0, .ref (ad 7)), (1, .int (nI r)), (2, .int (nI j))] := hl
  refine lv_aload_n hx hb dP_signOf_0 rfl (lv_at hl 0 rfl) ?_
  refine va_get (D := (dC, dI)) (ci := 1) (v := .ref (ad 8)) (C := RP) (T := FP) (N := 12) hx hb hta iP hown hK hP 0 rfl rfl 1 (by decide) (hta _ m_64) (fun _ h9 => h9) rfl dP_signOf_1 ?_
  refine lv_iload_n hx hb dP_signOf_4 rfl (lv_at hl 1 rfl) ?_
  refine na_iald hx hb hK hP 1 0 rfl rfl (i := r) (by omega) (by decide) dP_signOf_5 ?_
  refine lv_iconst (v := 1) hx hb dP_signOf_6 (by decide) ?_
  refine lv_icmp_eq (tgt := 15) hx hb dP_signOf_7 (by decide) (fun h1 => ?_) (fun h1 => ?_)
  · refine lv_iconst (v := (-1)) hx hb dP_signOf_15 (by decide) ?_
    refine lv_goto (tgt := 20) hx hb dP_signOf_16 (by decide) ?_
    exact W.iret (v := (-1)) hx hb hr (fun t ht hW => ⟨congrArg (fun z => Outcome.returned (some (.int z))) (by simp_all [sgM]), ht⟩) (fun q h => nomatch h) dP_signOf_20
  · refine lv_iload_n hx hb dP_signOf_10 rfl (lv_at hl 2 rfl) ?_
    refine lv_iconst (v := nI 1) hx hb dP_signOf_11 (by decide) ?_
    refine ni_ne (tgt := 19) hx hb dP_signOf_12 (by decide) (by omega) (by omega) (fun h2 => ?_) (fun h2 => ?_)
    · refine lv_iconst (v := 1) hx hb dP_signOf_19 (by decide) ?_
      exact W.iret (v := 1) hx hb hr (fun t ht hW => ⟨congrArg (fun z => Outcome.returned (some (.int z))) (by simp_all [sgM]), ht⟩) (fun q h => nomatch h) dP_signOf_20
    · refine lv_iconst (v := (-1)) hx hb dP_signOf_15 (by decide) ?_
      refine lv_goto (tgt := 20) hx hb dP_signOf_16 (by decide) ?_
      exact W.iret (v := (-1)) hx hb hr (fun t ht hW => ⟨congrArg (fun z => Outcome.returned (some (.int z))) (by simp_all [sgM]), ht⟩) (fun q h => nomatch h) dP_signOf_20

set_option maxHeartbeats 4000000 in
set_option maxRecDepth 100000 in
theorem c_P_variableOf (l : Launch) (dC : Nat → ClassId) (dI : Nat → Nat → Nat) (ad : Nat → Nat) (k : Nat → ClassId) (P : PS) (F : Nat → Int32) (T : TS) (r j : Nat) (hr9 : r < 12) : Met l yP_variableOf wP_variableOf ({ frames := 0, cells := 0, slots := 0, locals := 0 }) (rPc [.ref (ad 7), .int (nI r), .int (nI j)] (dC, dI) vwCl (PW ad k P ++ (FW ad k F ++ TW ad k T)) (PK k ++ (FK k ++ TK k)) nW) (rQ (some (.int (nI T.w + P.L r + nI j)))) 0 0 (fun _ => False) := by
  refine Met.ofW (cc := bP_variableOf) (maxL := 3) (ret := (some .int)) (by decide) rfl ?_
  intro p e s m args below meth c s₁ B hml hv
  obtain ⟨rfl, hP, hK, hX⟩ := hv
  have hx := B.exec
  have hb := B.bytes
  have hr := B.returns
  have hts := atoms_spec (ws := wP_variableOf) B.pre
  have hta : ∀ w ∈ AW, w.before _ s = true := fun w h => hts w (List.mem_cons_of_mem _ h)
  have hown : s.vm.findClass RP = some m.cls := findClass_of_methodNamed B.named
  have hlocks := B.notSynchronized
  have hl := lv_entry ([.ref (ad 7), .int (nI r), .int (nI j)]) (n := 3) (Nat.le_of_ble_eq_true rfl)
  rw [lg_entry_eq]
  generalize (lg_sl ([.ref (ad 7), .int (nI r), .int (nI j)]) ++ List.replicate (3 - (lg_sl ([.ref (ad 7), .int (nI r), .int (nI j)])).length) Slot.unset).toArray = ls at hl ⊢
  have hl : lv_has ls 3 [(0, .ref (ad 7)), (1, .int (nI r)), (2, .int (nI j))] := hl
  refine lv_aload_n hx hb dP_variableOf_0 rfl (lv_at hl 0 rfl) ?_
  refine va_get (D := (dC, dI)) (ci := 1) (v := .ref (ad 0)) (C := RP) (T := FP) (N := 12) hx hb hta iP hown hK hP 0 rfl rfl 6 (by decide) (hta _ m_69) (fun _ h9 => h9) rfl dP_variableOf_1 ?_
  refine va_getN (D := (dC, dI)) (ci := 0) (v := .int (nI T.w)) (C := RT) (T := FT) (N := 8) hx hb hta iT hown hK hP 6 rfl rfl 5 (by decide) (va_Nw.use rfl (hX _ nw_2)) (fun _ h9 => h9) rfl dP_variableOf_4 ?_
  refine lv_aload_n hx hb dP_variableOf_7 rfl (lv_at hl 0 rfl) ?_
  refine va_get (D := (dC, dI)) (ci := 1) (v := .ref (ad 11)) (C := RP) (T := FP) (N := 12) hx hb hta iP hown hK hP 0 rfl rfl 5 (by decide) (hta _ m_68) (fun _ h9 => h9) rfl dP_variableOf_8 ?_
  refine lv_iload_n hx hb dP_variableOf_11 rfl (lv_at hl 1 rfl) ?_
  refine na_iald hx hb hK hP 4 3 rfl rfl (i := r) (by omega) (by decide) dP_variableOf_12 ?_
  refine lv_iadd hx hb dP_variableOf_13 ?_
  refine lv_iload_n hx hb dP_variableOf_14 rfl (lv_at hl 2 rfl) ?_
  refine lv_iadd hx hb dP_variableOf_15 ?_
  exact W.iret (v := ((nI T.w) + (P.L r)) + (nI j)) hx hb hr (fun t ht hW => ⟨rfl, ht⟩) (fun q h => nomatch h) dP_variableOf_16

set_option maxHeartbeats 4000000 in
set_option maxRecDepth 100000 in
theorem c_P_isKept (l : Launch) (dC : Nat → ClassId) (dI : Nat → Nat → Nat) (ad : Nat → Nat) (k : Nat → ClassId) (P : PS) (F : Nat → Int32) (T : TS) (r : Nat) (hw : T.w ≤ 12) (hh : T.h ≤ 24) (hr9 : r < 12) : Met l yP_isKept wP_isKept ({ frames := 3, cells := 0, slots := 0, locals := 69 }) (rPc [.ref (ad 7), .int (nI r)] (dC, dI) vwCl (PW ad k P ++ (FW ad k F ++ TW ad k T)) (PK k ++ (FK k ++ TK k)) nW) (rQ (some (.int (bI (ikM P.K P.B F T r))))) 0 0 (fun _ => False) := by
  refine Met.ofW (cc := bP_isKept) (maxL := 4) (ret := (some .boolean)) (by decide) rfl ?_
  intro p e s m args below meth c s₁ B hml hv
  obtain ⟨rfl, hP, hK, hX⟩ := hv
  have hx := B.exec
  have hb := B.bytes
  have hr := B.returns
  have hts := atoms_spec (ws := wP_isKept) B.pre
  have hta : ∀ w ∈ AW, w.before _ s = true := fun w h => hts w (List.mem_cons_of_mem _ h)
  have hown : s.vm.findClass RP = some m.cls := findClass_of_methodNamed B.named
  have hlocks := B.notSynchronized
  have hl := lv_entry ([.ref (ad 7), .int (nI r)]) (n := 4) (Nat.le_of_ble_eq_true rfl)
  rw [lg_entry_eq]
  generalize (lg_sl ([.ref (ad 7), .int (nI r)]) ++ List.replicate (4 - (lg_sl ([.ref (ad 7), .int (nI r)])).length) Slot.unset).toArray = ls at hl ⊢
  have hl : lv_has ls 4 [(0, .ref (ad 7)), (1, .int (nI r))] := hl
  refine lv_aload_n hx hb dP_isKept_0 rfl (lv_at hl 0 rfl) ?_
  refine va_get (D := (dC, dI)) (ci := 1) (v := .ref (ad 0)) (C := RP) (T := FP) (N := 12) hx hb hta iP hown hK hP 0 rfl rfl 6 (by decide) (hta _ m_69) (fun _ h9 => h9) rfl dP_isKept_1 ?_
  refine lv_aload_n hx hb dP_isKept_4 rfl (lv_at hl 0 rfl) ?_
  refine va_get (D := (dC, dI)) (ci := 1) (v := .ref (ad 6)) (C := RP) (T := FP) (N := 12) hx hb hta iP hown hK hP 0 rfl rfl 4 (by decide) (hta _ m_67) (fun _ h9 => h9) rfl dP_isKept_5 ?_
  refine lv_iload_n hx hb dP_isKept_8 rfl (lv_at hl 1 rfl) ?_
  refine lv_iconst (v := nI 0) hx hb dP_isKept_9 (by decide) ?_
  refine rd_call (va_runS (As := [.int (nI r), .int (nI 0)]) (rest := [.ref (ad 6), .ref (ad 0)]) ⟨hx, hb, hml, hown, hta⟩ (c_P_factorPlace l dC dI ad k r 0) (cwS 2 hta (gS m_108 m_109 m_1 m_110) rfl rfl rfl (by decide +kernel) ⟨Nat.le_of_ble_eq_true rfl, Nat.le_of_ble_eq_true rfl⟩) (rd_S xT_ok trivial (hK.sub [] rfl) va_P_nil) rfl rfl hl.1 rfl (lv_room (Nat.le_of_ble_eq_true rfl)) dP_isKept_10 ⟨Nat.zero_le _, Nat.zero_le _⟩) ?_
  refine W.eq (g2 := F0 m 13 ls [.int (nI (r * 12 + 0)), .ref (ad 6), .ref (ad 0)]) rfl ?_
  refine rd_call (va_runVN (As := [.ref (ad 6), .int (nI (r * 12 + 0))]) (rest := []) ⟨hx, hb, hml, hown, hta⟩ (c_T_sumOfStarts l dC dI ad k F T (r * 12 + 0) (by first | omega | exact hw | exact hh) (by first | omega | exact hw | exact hh) (by first | omega | exact hw | exact hh)) ⟨(va_cnB 2 hta (gC m_114) rfl rfl rfl (hX _ nw_5) (hta _ m_2) (by decide +kernel) ⟨Nat.le_of_ble_eq_true rfl, Nat.le_of_ble_eq_true rfl⟩), hta _ m_113, hta _ mp_1⟩ (rd_V xT_ok trivial (hK.sub [4, 5, 6, 7, 8, 9] rfl) (hP.sub [5, 6, 7, 8, 9, 10, 11] rfl) (ci := 0) (q0 := 1) rfl rfl) rfl rfl hl.1 rfl (lv_room (Nat.le_of_ble_eq_true rfl)) dP_isKept_13 ⟨Nat.zero_le _, Nat.zero_le _⟩) ?_
  refine W.eq (g2 := F0 m 16 ls [.long (sumS T F (r * 12 + 0) 0 T.w 0)]) rfl ?_
  refine lv_aload_n hx hb dP_isKept_16 rfl (lv_at hl 0 rfl) ?_
  refine va_get (D := (dC, dI)) (ci := 1) (v := .ref (ad 0)) (C := RP) (T := FP) (N := 12) hx hb hta iP hown hK hP 0 rfl rfl 6 (by decide) (hta _ m_69) (fun _ h9 => h9) rfl dP_isKept_17 ?_
  refine va_getN (D := (dC, dI)) (ci := 0) (v := .long T.d) (C := RT) (T := FT) (N := 8) hx hb hta iT hown hK hP 6 rfl rfl 7 (by decide) (va_Nw.use rfl (hX _ nw_4)) (fun _ h9 => h9) rfl dP_isKept_20 ?_
  refine lv_aload_n hx hb dP_isKept_23 rfl (lv_at hl 0 rfl) ?_
  refine va_get (D := (dC, dI)) (ci := 1) (v := .ref (ad 10)) (C := RP) (T := FP) (N := 12) hx hb hta iP hown hK hP 0 rfl rfl 3 (by decide) (hta _ m_66) (fun _ h9 => h9) rfl dP_isKept_24 ?_
  refine lv_iload_n hx hb dP_isKept_27 rfl (lv_at hl 1 rfl) ?_
  refine na_lald hx hb hK hP 3 2 rfl rfl (i := r) (by omega) (by decide) dP_isKept_28 ?_
  refine lv_lmul hx hb dP_isKept_29 ?_
  refine lv_lsub hx hb dP_isKept_30 ?_
  refine st_l (y := ovM P.B F T r) (rfl) ?_
  refine lv_lstore_n (lv' := [(2, .long (ovM P.B F T r)), (0, .ref (ad 7)), (1, .int (nI r))]) hx hb dP_isKept_31 rfl hl (by decide) rfl (fun ls hl => ?_)
  refine lv_aload_n hx hb dP_isKept_32 rfl (lv_at hl 1 rfl) ?_
  refine va_get (D := (dC, dI)) (ci := 1) (v := .ref (ad 8)) (C := RP) (T := FP) (N := 12) hx hb hta iP hown hK hP 0 rfl rfl 1 (by decide) (hta _ m_64) (fun _ h9 => h9) rfl dP_isKept_33 ?_
  refine lv_iload_n hx hb dP_isKept_36 rfl (lv_at hl 2 rfl) ?_
  refine na_iald hx hb hK hP 1 0 rfl rfl (i := r) (by omega) (by decide) dP_isKept_37 ?_
  refine lv_if_ne (tgt := 53) hx hb dP_isKept_38 (by decide) (fun h1 => ?_) (fun h1 => ?_)
  · refine lv_aload_n hx hb dP_isKept_53 rfl (lv_at hl 1 rfl) ?_
    refine va_get (D := (dC, dI)) (ci := 1) (v := .ref (ad 8)) (C := RP) (T := FP) (N := 12) hx hb hta iP hown hK hP 0 rfl rfl 1 (by decide) (hta _ m_64) (fun _ h9 => h9) rfl dP_isKept_54 ?_
    refine lv_iload_n hx hb dP_isKept_57 rfl (lv_at hl 2 rfl) ?_
    refine na_iald hx hb hK hP 1 0 rfl rfl (i := r) (by omega) (by decide) dP_isKept_58 ?_
    refine lv_iconst (v := 1) hx hb dP_isKept_59 (by decide) ?_
    refine lv_icmp_ne (tgt := 77) hx hb dP_isKept_60 (by decide) (fun h3 => ?_) (fun h3 => ?_)
    · refine lv_lload_n hx hb dP_isKept_77 rfl (lv_at hl 0 rfl) ?_
      refine lv_lconst (v := 0) hx hb dP_isKept_78 (by decide) ?_
      refine ll_ne (tgt := 87) hx hb dP_isKept_79 dP_isKept_80 (by decide) (fun h2 => ?_) (fun h2 => ?_)
      · refine lv_iconst (v := 0) hx hb dP_isKept_87 (by decide) ?_
        exact W.zret (v := 0) hx hb hr (rfl) (fun t ht hW => ⟨congrArg (fun z => Outcome.returned (some (.int z))) (by simp [ikM, h1, h3, h2, bI]), ht⟩) (fun q h => nomatch h) dP_isKept_88
      · refine lv_iconst (v := 1) hx hb dP_isKept_83 (by decide) ?_
        refine lv_goto (tgt := 88) hx hb dP_isKept_84 (by decide) ?_
        exact W.zret (v := 1) hx hb hr (rfl) (fun t ht hW => ⟨congrArg (fun z => Outcome.returned (some (.int z))) (by simp [ikM, h1, h3, h2, bI]), ht⟩) (fun q h => nomatch h) dP_isKept_88
    · refine lv_lload_n hx hb dP_isKept_63 rfl (lv_at hl 0 rfl) ?_
      refine lv_lconst (v := 0) hx hb dP_isKept_64 (by decide) ?_
      refine ll_gt (tgt := 73) hx hb dP_isKept_65 dP_isKept_66 (by decide) (fun h2 => ?_) (fun h2 => ?_)
      · refine lv_iconst (v := 0) hx hb dP_isKept_73 (by decide) ?_
        refine lv_goto (tgt := 88) hx hb dP_isKept_74 (by decide) ?_
        exact W.zret (v := 0) hx hb hr (rfl) (fun t ht hW => ⟨congrArg (fun z => Outcome.returned (some (.int z))) (by simp [ikM, h1, h3, h2, bI]), ht⟩) (fun q h => nomatch h) dP_isKept_88
      · refine lv_iconst (v := 1) hx hb dP_isKept_69 (by decide) ?_
        refine lv_goto (tgt := 88) hx hb dP_isKept_70 (by decide) ?_
        exact W.zret (v := 1) hx hb hr (rfl) (fun t ht hW => ⟨congrArg (fun z => Outcome.returned (some (.int z))) (by simp [ikM, h1, h3, h2, bI]), ht⟩) (fun q h => nomatch h) dP_isKept_88
  · refine lv_lload_n hx hb dP_isKept_41 rfl (lv_at hl 0 rfl) ?_
    refine lv_lconst (v := 0) hx hb dP_isKept_42 (by decide) ?_
    refine ll_lt (tgt := 51) hx hb dP_isKept_43 dP_isKept_44 (by decide) (fun h2 => ?_) (fun h2 => ?_)
    · refine lv_iconst (v := 0) hx hb dP_isKept_51 (by decide) ?_
      exact W.zret (v := 0) hx hb hr (rfl) (fun t ht hW => ⟨congrArg (fun z => Outcome.returned (some (.int z))) (by simp [ikM, h1, h2, bI]), ht⟩) (fun q h => nomatch h) dP_isKept_52
    · refine lv_iconst (v := 1) hx hb dP_isKept_47 (by decide) ?_
      refine lv_goto (tgt := 52) hx hb dP_isKept_48 (by decide) ?_
      exact W.zret (v := 1) hx hb hr (rfl) (fun t ht hW => ⟨congrArg (fun z => Outcome.returned (some (.int z))) (by simp [ikM, h1, h2, bI]), ht⟩) (fun q h => nomatch h) dP_isKept_52

set_option maxHeartbeats 4000000 in
set_option maxRecDepth 100000 in
theorem c_P_check (l : Launch) (dC : Nat → ClassId) (dI : Nat → Nat → Nat) (ad : Nat → Nat) (k : Nat → ClassId) (P : PS) (F : Nat → Int32) (T : TS)  (hw : T.w ≤ 12) (hh : T.h ≤ 24) (hro : P.rows ≤ 12) : Met l yP_check wP_check ({ frames := 4, cells := 0, slots := 0, locals := 92 }) (rPc [.ref (ad 7)] (dC, dI) vwCl (PW ad k P ++ (FW ad k F ++ TW ad k T)) (PK k ++ (FK k ++ TK k)) nW) (rQ (some (.int (nI (ckL P.K P.B F T 0 P.rows))))) 0 0 (fun _ => False) := by
  refine Met.ofW (cc := bP_check) (maxL := 2) (ret := (some .int)) (by decide) rfl ?_
  intro p e s m args below meth c s₁ B hml hv
  obtain ⟨rfl, hP, hK, hX⟩ := hv
  have hx := B.exec
  have hb := B.bytes
  have hr := B.returns
  have hts := atoms_spec (ws := wP_check) B.pre
  have hta : ∀ w ∈ AW, w.before _ s = true := fun w h => hts w (List.mem_cons_of_mem _ h)
  have hown : s.vm.findClass RP = some m.cls := findClass_of_methodNamed B.named
  have hlocks := B.notSynchronized
  have hl := lv_entry ([.ref (ad 7)]) (n := 2) (Nat.le_of_ble_eq_true rfl)
  rw [lg_entry_eq]
  generalize (lg_sl ([.ref (ad 7)]) ++ List.replicate (2 - (lg_sl ([.ref (ad 7)])).length) Slot.unset).toArray = ls at hl ⊢
  have hl : lv_has ls 2 [(0, .ref (ad 7))] := hl
  refine lv_iconst (v := nI 0) hx hb dP_check_0 (by decide) ?_
  refine lv_istore_n (lv' := [(1, .int (nI 0)), (0, .ref (ad 7))]) hx hb dP_check_1 rfl hl (by decide) rfl (fun ls hl => ?_)
  have loop2 : ∀ (n : Nat) (i : Nat) (ls : Array Slot), (i + n = P.rows) → (ckL P.K P.B F T i n = ckL P.K P.B F T 0 P.rows) → lv_has ls 2 [(1, .int (nI i)), (0, .ref (ad 7))] → W p l e (headSpec wP_check ({ frames := 4, cells := 0, slots := 0, locals := 92 })).room s m ([.ref (ad 7)] : List Value).toArray below meth c s.heap [] 0 0 (MQ below (rQ (some (.int (nI (ckL P.K P.B F T 0 P.rows))))) ([.ref (ad 7)] : List Value).toArray s 0 0 (fun _ => False)) (F0 m 2 ls []) := by
    intro n
    induction n with
    | zero =>
      intro i ls hn hq hl
      refine lv_iload_n hx hb dP_check_2 rfl (lv_at hl 0 rfl) ?_
      refine lv_aload_n hx hb dP_check_3 rfl (lv_at hl 1 rfl) ?_
      refine va_get (D := (dC, dI)) (ci := 1) (v := .int (nI P.rows)) (C := RP) (T := FP) (N := 12) hx hb hta iP hown hK hP 0 rfl rfl 7 (by decide) (hta _ m_70) (fun _ h9 => h9) rfl dP_check_4 ?_
      refine ni_ge (tgt := 28) hx hb dP_check_7 (by decide) (by omega) (by omega) (fun c_1 => ?_) (fun c_1 => ?_)
      · refine lv_iconst (v := nI 0) hx hb dP_check_28 (by decide) ?_
        exact W.iret (v := nI 0) hx hb hr (fun t ht hW => ⟨congrArg (fun z => Outcome.returned (some (.int z))) (by rw [← hq]; rfl), ht⟩) (fun q h => nomatch h) dP_check_29
      · exfalso; omega
    | succ n ih =>
      intro i ls hn hq hl
      refine lv_iload_n hx hb dP_check_2 rfl (lv_at hl 0 rfl) ?_
      refine lv_aload_n hx hb dP_check_3 rfl (lv_at hl 1 rfl) ?_
      refine va_get (D := (dC, dI)) (ci := 1) (v := .int (nI P.rows)) (C := RP) (T := FP) (N := 12) hx hb hta iP hown hK hP 0 rfl rfl 7 (by decide) (hta _ m_70) (fun _ h9 => h9) rfl dP_check_4 ?_
      refine ni_ge (tgt := 28) hx hb dP_check_7 (by decide) (by omega) (by omega) (fun c_2 => ?_) (fun c_2 => ?_)
      · exfalso; omega
      · refine lv_aload_n hx hb dP_check_10 rfl (lv_at hl 1 rfl) ?_
        refine lv_iload_n hx hb dP_check_11 rfl (lv_at hl 0 rfl) ?_
        refine rd_call (va_runV (As := [.int (nI i)]) (rest := []) ⟨hx, hb, hml, hown, hta⟩ (c_P_isKept l dC dI ad k P F T i (by first | omega | exact hw | exact hh) (by first | omega | exact hw | exact hh) (by first | omega | exact hw | exact hh)) (cwV 1 hta (gV m_104 m_106 mp_0 m_1 m_107) rfl rfl rfl (by decide +kernel) ⟨Nat.le_of_ble_eq_true rfl, Nat.le_of_ble_eq_true rfl⟩) (rd_V nW_ok hX hK hP (ci := 1) (q0 := 0) rfl rfl) rfl rfl hl.1 rfl (lv_room (Nat.le_of_ble_eq_true rfl)) dP_check_12 ⟨Nat.zero_le _, Nat.zero_le _⟩) ?_
        refine W.eq (g2 := F0 m 15 ls [.int (bI (ikM P.K P.B F T i))]) rfl ?_
        refine lb_ne (tgt := 22) hx hb dP_check_15 (by decide) (fun hc => ?_) (fun hc => ?_)
        · refine lv_iinc (v := nI (i + 1)) (lv' := [(1, .int (nI (i + 1))), (0, .ref (ad 7))]) hx hb dP_check_22 hl (k := 0) rfl (nI_add i 1) (by decide) rfl (fun ls hl => ?_)
          refine lv_goto (tgt := 2) hx hb dP_check_25 (by decide) ?_
          exact ih (i + 1) ls (by omega) (by rw [← hq]; simp [ckL, hc]) (lv_sub hl [0, 1] rfl)
        · refine lv_iload_n hx hb dP_check_18 rfl (lv_at hl 0 rfl) ?_
          refine lv_iconst (v := nI 1) hx hb dP_check_19 (by decide) ?_
          refine lv_iadd hx hb dP_check_20 ?_
          refine st_i (y := nI (i + 1)) (nI_add _ _) ?_
          exact W.iret (v := nI (i + 1)) hx hb hr (fun t ht hW => ⟨congrArg (fun z => Outcome.returned (some (.int z))) (by rw [← hq]; simp [ckL, hc]), ht⟩) (fun q h => nomatch h) dP_check_21
  exact loop2 P.rows 0 ls (by omega) rfl (lv_sub hl [0, 1] rfl)

set_option maxHeartbeats 4000000 in
set_option maxRecDepth 100000 in
theorem c_P_steps (l : Launch) (dC : Nat → ClassId) (dI : Nat → Nat → Nat) (ad : Nat → Nat) (k : Nat → ClassId) (P : PS) (F : Nat → Int32) (T : TS)   : Met l yP_steps wP_steps ({ frames := 0, cells := 0, slots := 0, locals := 0 }) (rPc [.ref (ad 7)] (dC, dI) vwCl (PW ad k P ++ (FW ad k F ++ TW ad k T)) (PK k ++ (FK k ++ TK k)) nW) (rQ (some (.int P.stp))) 0 0 (fun _ => False) := by
  refine Met.ofW (cc := bP_steps) (maxL := 1) (ret := (some .int)) (by decide) rfl ?_
  intro p e s m args below meth c s₁ B hml hv
  obtain ⟨rfl, hP, hK, hX⟩ := hv
  have hx := B.exec
  have hb := B.bytes
  have hr := B.returns
  have hts := atoms_spec (ws := wP_steps) B.pre
  have hta : ∀ w ∈ AW, w.before _ s = true := fun w h => hts w (List.mem_cons_of_mem _ h)
  have hown : s.vm.findClass RP = some m.cls := findClass_of_methodNamed B.named
  have hlocks := B.notSynchronized
  have hl := lv_entry ([.ref (ad 7)]) (n := 1) (Nat.le_of_ble_eq_true rfl)
  rw [lg_entry_eq]
  generalize (lg_sl ([.ref (ad 7)]) ++ List.replicate (1 - (lg_sl ([.ref (ad 7)])).length) Slot.unset).toArray = ls at hl ⊢
  have hl : lv_has ls 1 [(0, .ref (ad 7))] := hl
  refine lv_aload_n hx hb dP_steps_0 rfl (lv_at hl 0 rfl) ?_
  refine va_get (D := (dC, dI)) (ci := 1) (v := .int P.stp) (C := RP) (T := FP) (N := 12) hx hb hta iP hown hK hP 0 rfl rfl 9 (by decide) (hta _ m_72) (fun _ h9 => h9) rfl dP_steps_1 ?_
  exact W.iret (v := P.stp) hx hb hr (fun t ht hW => ⟨rfl, ht⟩) (fun q h => nomatch h) dP_steps_4

set_option maxHeartbeats 4000000 in
set_option maxRecDepth 100000 in
theorem c_P_timesTaken (l : Launch) (dC : Nat → ClassId) (dI : Nat → Nat → Nat) (ad : Nat → Nat) (k : Nat → ClassId) (P : PS) (F : Nat → Int32) (T : TS) (o : Option Nat) (v : Int32) (hw : T.w ≤ 12) (ho9 : ∀ j, o = some j → j < 25) : Met l yP_timesTaken wP_timesTaken ({ frames := 2, cells := 0, slots := 0, locals := 45 }) (rPc [.ref (ad 7), .int (enc o), .int v] (dC, dI) vwCl (PW ad k P ++ (FW ad k F ++ TW ad k T)) (PK k ++ (FK k ++ TK k)) nW) (rQ (some (.long (tmM T o v)))) 0 0 (fun _ => False) := by
  refine Met.ofW (cc := bP_timesTaken) (maxL := 3) (ret := (some .long)) (by decide) rfl ?_
  intro p e s m args below meth c s₁ B hml hv
  obtain ⟨rfl, hP, hK, hX⟩ := hv
  have hx := B.exec
  have hb := B.bytes
  have hr := B.returns
  have hts := atoms_spec (ws := wP_timesTaken) B.pre
  have hta : ∀ w ∈ AW, w.before _ s = true := fun w h => hts w (List.mem_cons_of_mem _ h)
  have hown : s.vm.findClass RP = some m.cls := findClass_of_methodNamed B.named
  have hlocks := B.notSynchronized
  have hl := lv_entry ([.ref (ad 7), .int (enc o), .int v]) (n := 3) (Nat.le_of_ble_eq_true rfl)
  rw [lg_entry_eq]
  generalize (lg_sl ([.ref (ad 7), .int (enc o), .int v]) ++ List.replicate (3 - (lg_sl ([.ref (ad 7), .int (enc o), .int v])).length) Slot.unset).toArray = ls at hl ⊢
  have hl : lv_has ls 3 [(0, .ref (ad 7)), (1, .int (enc o)), (2, .int v)] := hl
  refine lv_iload_n hx hb dP_timesTaken_0 rfl (lv_at hl 1 rfl) ?_
  refine lv_iconst (v := (-1)) hx hb dP_timesTaken_1 (by decide) ?_
  refine en_ne (o := o) (tgt := 7) hx hb dP_timesTaken_2 (by decide) (fun j h => by have := ho9 j h; omega) (fun j_1 ho => ?_) (fun ho => ?_)
  · rw [ho] at hl
    have hl : lv_has ls 3 [(0, .ref (ad 7)), (1, .int (nI j_1)), (2, .int v)] := hl
    have hj := ho9 _ ho
    refine lv_aload_n hx hb dP_timesTaken_7 rfl (lv_at hl 0 rfl) ?_
    refine va_get (D := (dC, dI)) (ci := 1) (v := .ref (ad 0)) (C := RP) (T := FP) (N := 12) hx hb hta iP hown hK hP 0 rfl rfl 6 (by decide) (hta _ m_69) (fun _ h9 => h9) rfl dP_timesTaken_8 ?_
    refine va_getN (D := (dC, dI)) (ci := 0) (v := .ref (ad 2)) (C := RT) (T := FT) (N := 8) hx hb hta iT hown hK hP 6 rfl rfl 1 (by decide) (va_Nw.use rfl (hX _ nw_1)) (fun _ h9 => h9) rfl dP_timesTaken_11 ?_
    refine lv_iload_n hx hb dP_timesTaken_14 rfl (lv_at hl 1 rfl) ?_
    refine na_iald hx hb hK hP 8 6 rfl rfl (i := j_1) (by omega) (by decide) dP_timesTaken_15 ?_
    refine lv_iload_n hx hb dP_timesTaken_16 rfl (lv_at hl 2 rfl) ?_
    refine lv_icmp_ne (tgt := 30) hx hb dP_timesTaken_17 (by decide) (fun hc => ?_) (fun hc => ?_)
    · refine lv_aload_n hx hb dP_timesTaken_30 rfl (lv_at hl 0 rfl) ?_
      refine va_get (D := (dC, dI)) (ci := 1) (v := .ref (ad 0)) (C := RP) (T := FP) (N := 12) hx hb hta iP hown hK hP 0 rfl rfl 6 (by decide) (hta _ m_69) (fun _ h9 => h9) rfl dP_timesTaken_31 ?_
      refine lv_iload_n hx hb dP_timesTaken_34 rfl (lv_at hl 1 rfl) ?_
      refine lv_iload_n hx hb dP_timesTaken_35 rfl (lv_at hl 2 rfl) ?_
      refine rd_call (va_runVN (As := [.int (nI j_1), .int v]) (rest := []) ⟨hx, hb, hml, hown, hta⟩ (c_T_numberBy l dC dI ad k T j_1 v (by first | omega | exact hw | exact hh) (by first | omega | exact hw | exact hh)) ⟨(va_cnB 2 hta (gC m_473) rfl rfl rfl (hX _ nw_19) (hta _ m_2) (by decide +kernel) ⟨Nat.le_of_ble_eq_true rfl, Nat.le_of_ble_eq_true rfl⟩), hta _ m_472, hta _ mp_38⟩ (rd_V xT_ok trivial (hK.sub [5, 6, 7, 8, 9] rfl) (hP.sub [6, 7, 8, 9, 10, 11] rfl) (ci := 0) (q0 := 0) rfl rfl) rfl rfl hl.1 rfl (lv_room (Nat.le_of_ble_eq_true rfl)) dP_timesTaken_36 ⟨Nat.zero_le _, Nat.zero_le _⟩) ?_
      refine W.eq (g2 := F0 m 39 ls [.long (TS.num T j_1 v)]) rfl ?_
      refine lv_lneg hx hb dP_timesTaken_39 ?_
      exact W.lret (v := -(TS.num T j_1 v)) hx hb hr (fun t ht hW => ⟨congrArg (fun z => Outcome.returned (some (.long z))) (by simp [tmM, ho, hc]), ht⟩) (fun q h => nomatch h) dP_timesTaken_40
    · refine lv_aload_n hx hb dP_timesTaken_20 rfl (lv_at hl 0 rfl) ?_
      refine va_get (D := (dC, dI)) (ci := 1) (v := .ref (ad 0)) (C := RP) (T := FP) (N := 12) hx hb hta iP hown hK hP 0 rfl rfl 6 (by decide) (hta _ m_69) (fun _ h9 => h9) rfl dP_timesTaken_21 ?_
      refine va_getN (D := (dC, dI)) (ci := 0) (v := .long T.d) (C := RT) (T := FT) (N := 8) hx hb hta iT hown hK hP 6 rfl rfl 7 (by decide) (va_Nw.use rfl (hX _ nw_4)) (fun _ h9 => h9) rfl dP_timesTaken_24 ?_
      refine lv_goto (tgt := 40) hx hb dP_timesTaken_27 (by decide) ?_
      exact W.lret (v := T.d) hx hb hr (fun t ht hW => ⟨congrArg (fun z => Outcome.returned (some (.long z))) (by simp [tmM, ho, hc]), ht⟩) (fun q h => nomatch h) dP_timesTaken_40
  · rw [ho] at hl
    have hl : lv_has ls 3 [(0, .ref (ad 7)), (1, .int (-1)), (2, .int v)] := hl
    refine lv_lconst (v := 0) hx hb dP_timesTaken_5 (by decide) ?_
    exact W.lret (v := 0) hx hb hr (fun t ht hW => ⟨congrArg (fun z => Outcome.returned (some (.long z))) (by simp [tmM, ho]), ht⟩) (fun q h => nomatch h) dP_timesTaken_6

set_option maxHeartbeats 4000000 in
set_option maxRecDepth 100000 in
theorem c_P_greatestCommon (l : Launch) (dC : Nat → ClassId) (dI : Nat → Nat → Nat) (ad : Nat → Nat) (k : Nat → ClassId) (x y : Int64)  : Met l yP_greatestCommon wP_greatestCommon ({ frames := 0, cells := 0, slots := 0, locals := 0 }) (rPc [.long x, .long y] (dC, dI) vwCl ([]) ([]) xT) (rQ (some (.long (gcL 100 x y)))) 0 0 (fun _ => False) := by
  refine Met.ofW (cc := bP_greatestCommon) (maxL := 7) (ret := (some .long)) (by decide) rfl ?_
  intro p e s m args below meth c s₁ B hml hv
  obtain ⟨rfl, hP, hK, hX⟩ := hv
  have hx := B.exec
  have hb := B.bytes
  have hr := B.returns
  have hts := atoms_spec (ws := wP_greatestCommon) B.pre
  have hta : ∀ w ∈ AW, w.before _ s = true := fun w h => hts w (List.mem_cons_of_mem _ h)
  have hown : s.vm.findClass RP = some m.cls := findClass_of_methodNamed B.named
  have hlocks := B.notSynchronized
  have hl := lv_entry ([.long x, .long y]) (n := 7) (Nat.le_of_ble_eq_true rfl)
  rw [lg_entry_eq]
  generalize (lg_sl ([.long x, .long y]) ++ List.replicate (7 - (lg_sl ([.long x, .long y])).length) Slot.unset).toArray = ls at hl ⊢
  have hl : lv_has ls 7 [(0, .long x), (2, .long y)] := hl
  refine lv_iconst (v := nI 0) hx hb dP_greatestCommon_0 (by decide) ?_
  refine lv_istore (lv' := [(4, .int (nI 0)), (0, .long x), (2, .long y)]) hx hb dP_greatestCommon_1 hl (by decide) rfl (fun ls hl => ?_)
  have loop3 : ∀ (n : Nat) (i : Nat) (u : Int64) (v : Int64) (ls : Array Slot), (i + n = 100) → (gcL n u v = gcL 100 x y) → lv_has ls 7 [(4, .int (nI i)), (0, .long u), (2, .long v)] → W p l e (headSpec wP_greatestCommon ({ frames := 0, cells := 0, slots := 0, locals := 0 })).room s m ([.long x, .long y] : List Value).toArray below meth c s.heap [] 0 0 (MQ below (rQ (some (.long (gcL 100 x y)))) ([.long x, .long y] : List Value).toArray s 0 0 (fun _ => False)) (F0 m 3 ls []) := by
    intro n
    induction n with
    | zero =>
      intro i u v ls hn hq hl
      refine lv_iload hx hb dP_greatestCommon_3 (lv_at hl 0 rfl) ?_
      refine lv_bipush (v := nI 100) hx hb dP_greatestCommon_5 (by decide) ?_
      refine ni_ge (tgt := 32) hx hb dP_greatestCommon_7 (by decide) (by omega) (by omega) (fun c_1 => ?_) (fun c_1 => ?_)
      · refine lv_lload_n hx hb dP_greatestCommon_32 rfl (lv_at hl 1 rfl) ?_
        exact W.lret (v := u) hx hb hr (fun t ht hW => ⟨congrArg (fun z => Outcome.returned (some (.long z))) (by rw [← hq]; rfl), ht⟩) (fun q h => nomatch h) dP_greatestCommon_33
      · exfalso; omega
    | succ n ih =>
      intro i u v ls hn hq hl
      refine lv_iload hx hb dP_greatestCommon_3 (lv_at hl 0 rfl) ?_
      refine lv_bipush (v := nI 100) hx hb dP_greatestCommon_5 (by decide) ?_
      refine ni_ge (tgt := 32) hx hb dP_greatestCommon_7 (by decide) (by omega) (by omega) (fun c_2 => ?_) (fun c_2 => ?_)
      · exfalso; omega
      · refine lv_lload_n hx hb dP_greatestCommon_10 rfl (lv_at hl 2 rfl) ?_
        refine lv_lconst (v := 0) hx hb dP_greatestCommon_11 (by decide) ?_
        refine ll_eq (tgt := 32) hx hb dP_greatestCommon_12 dP_greatestCommon_13 (by decide) (fun hc => ?_) (fun hc => ?_)
        · refine lv_lload_n hx hb dP_greatestCommon_32 rfl (lv_at hl 1 rfl) ?_
          exact W.lret (v := u) hx hb hr (fun t ht hW => ⟨congrArg (fun z => Outcome.returned (some (.long z))) (by rw [← hq]; simp [gcL, hc]), ht⟩) (fun q h => nomatch h) dP_greatestCommon_33
        · refine lv_lload_n hx hb dP_greatestCommon_16 rfl (lv_at hl 1 rfl) ?_
          refine lv_lload_n hx hb dP_greatestCommon_17 rfl (lv_at hl 2 rfl) ?_
          refine lv_lrem hx hb dP_greatestCommon_18 (hc) ?_
          refine lv_lstore (lv' := [(5, .long (u - u / v * v)), (4, .int (nI i)), (0, .long u), (2, .long v)]) hx hb dP_greatestCommon_19 hl (by decide) rfl (fun ls hl => ?_)
          refine lv_lload_n hx hb dP_greatestCommon_21 rfl (lv_at hl 3 rfl) ?_
          refine lv_lstore_n (lv' := [(0, .long v), (5, .long (u - u / v * v)), (4, .int (nI i)), (2, .long v)]) hx hb dP_greatestCommon_22 rfl hl (by decide) rfl (fun ls hl => ?_)
          refine lv_lload hx hb dP_greatestCommon_23 (lv_at hl 1 rfl) ?_
          refine lv_lstore_n (lv' := [(2, .long (u - u / v * v)), (0, .long v), (5, .long (u - u / v * v)), (4, .int (nI i))]) hx hb dP_greatestCommon_25 rfl hl (by decide) rfl (fun ls hl => ?_)
          refine lv_iinc (v := nI (i + 1)) (lv' := [(4, .int (nI (i + 1))), (2, .long (u - u / v * v)), (0, .long v), (5, .long (u - u / v * v))]) hx hb dP_greatestCommon_26 hl (k := 3) rfl (nI_add i 1) (by decide) rfl (fun ls hl => ?_)
          refine lv_goto (tgt := 3) hx hb dP_greatestCommon_29 (by decide) ?_
          exact ih (i + 1) (v) (u - u / v * v) ls (by omega) (by rw [← hq]; simp [gcL, hc]) (lv_sub hl [0, 2, 1] rfl)
  exact loop3 100 0 x y ls (by omega) rfl (lv_sub hl [0, 1, 2] rfl)

set_option maxHeartbeats 4000000 in
set_option maxRecDepth 100000 in
theorem c_P_inLeastTerms (l : Launch) (dC : Nat → ClassId) (dI : Nat → Nat → Nat) (ad : Nat → Nat) (k : Nat → ClassId) (u x : Int64) (pt : Int32)  : Met l yP_inLeastTerms wP_inLeastTerms ({ frames := 1, cells := 0, slots := 0, locals := 26 }) (rPc [.long u, .long x, .int pt] (dC, dI) vwCl ([]) ([]) xT) (rQ (some (.long (ltM u x pt)))) 0 0 (fun _ => False) := by
  refine Met.ofW (cc := bP_inLeastTerms) (maxL := 9) (ret := (some .long)) (by decide) rfl ?_
  intro p e s m args below meth c s₁ B hml hv
  obtain ⟨rfl, hP, hK, hX⟩ := hv
  have hx := B.exec
  have hb := B.bytes
  have hr := B.returns
  have hts := atoms_spec (ws := wP_inLeastTerms) B.pre
  have hta : ∀ w ∈ AW, w.before _ s = true := fun w h => hts w (List.mem_cons_of_mem _ h)
  have hown : s.vm.findClass RP = some m.cls := findClass_of_methodNamed B.named
  have hlocks := B.notSynchronized
  have hl := lv_entry ([.long u, .long x, .int pt]) (n := 9) (Nat.le_of_ble_eq_true rfl)
  rw [lg_entry_eq]
  generalize (lg_sl ([.long u, .long x, .int pt]) ++ List.replicate (9 - (lg_sl ([.long u, .long x, .int pt])).length) Slot.unset).toArray = ls at hl ⊢
  have hl : lv_has ls 9 [(0, .long u), (2, .long x), (4, .int pt)] := hl
  refine lv_iload hx hb dP_inLeastTerms_0 (lv_at hl 2 rfl) ?_
  refine lv_if_ne (tgt := 9) hx hb dP_inLeastTerms_2 (by decide) (fun h1 => ?_) (fun h1 => ?_)
  · refine lv_lload_n hx hb dP_inLeastTerms_9 rfl (lv_at hl 1 rfl) ?_
    refine lv_lstore (lv' := [(5, .long x), (0, .long u), (2, .long x), (4, .int pt)]) hx hb dP_inLeastTerms_10 hl (by decide) rfl (fun ls hl => ?_)
    refine lv_lload_n hx hb dP_inLeastTerms_12 rfl (lv_at hl 1 rfl) ?_
    refine va_mabs_long hx hb (hml.trans hl.1.symm) hown (hta _ m_445) (hta _ m_446) (hta _ m_3) (hta _ m_447) (Nat.le_of_ble_eq_true rfl) (Nat.le_of_ble_eq_true rfl) (Nat.zero_le _) (Nat.zero_le _) dP_inLeastTerms_13 ?_
    refine W.eq (g2 := F0 m 16 ls [.long (abL u)]) rfl ?_
    refine lv_lload_n hx hb dP_inLeastTerms_16 rfl (lv_at hl 2 rfl) ?_
    refine rd_call (va_runS (As := [.long (abL u), .long x]) (rest := []) ⟨hx, hb, hml, hown, hta⟩ (c_P_greatestCommon l dC dI ad k (abL u) x) (cwS 2 hta (gS m_448 m_449 m_1 m_450) rfl rfl rfl (by decide +kernel) ⟨Nat.le_of_ble_eq_true rfl, Nat.le_of_ble_eq_true rfl⟩) (rd_S xT_ok trivial (hK.sub [] rfl) va_P_nil) rfl rfl hl.1 rfl (lv_room (Nat.le_of_ble_eq_true rfl)) dP_inLeastTerms_17 ⟨Nat.zero_le _, Nat.zero_le _⟩) ?_
    refine W.eq (g2 := F0 m 20 ls [.long (gcL 100 (abL u) x)]) rfl ?_
    refine lv_lstore (lv' := [(7, .long (gcL 100 (abL u) x)), (5, .long x), (0, .long u), (2, .long x), (4, .int pt)]) hx hb dP_inLeastTerms_20 hl (by decide) rfl (fun ls hl => ?_)
    refine lv_lload hx hb dP_inLeastTerms_22 (lv_at hl 0 rfl) ?_
    refine lv_lconst (v := 0) hx hb dP_inLeastTerms_24 (by decide) ?_
    refine ll_ne (tgt := 34) hx hb dP_inLeastTerms_25 dP_inLeastTerms_26 (by decide) (fun h2 => ?_) (fun h2 => ?_)
    · refine lv_lload hx hb dP_inLeastTerms_34 (lv_at hl 1 rfl) ?_
      refine lv_lload hx hb dP_inLeastTerms_36 (lv_at hl 0 rfl) ?_
      refine lv_ldiv hx hb dP_inLeastTerms_38 (h2) ?_
      exact W.lret (v := x / (gcL 100 (abL u) x)) hx hb hr (fun t ht hW => ⟨congrArg (fun z => Outcome.returned (some (.long z))) (by simp [ltM, h1, h2]), ht⟩) (fun q h => nomatch h) dP_inLeastTerms_39
    · refine lv_lload hx hb dP_inLeastTerms_29 (lv_at hl 1 rfl) ?_
      refine lv_goto (tgt := 39) hx hb dP_inLeastTerms_31 (by decide) ?_
      exact W.lret (v := x) hx hb hr (fun t ht hW => ⟨congrArg (fun z => Outcome.returned (some (.long z))) (by simp [ltM, h1, h2]), ht⟩) (fun q h => nomatch h) dP_inLeastTerms_39
  · refine lv_lload_n hx hb dP_inLeastTerms_5 rfl (lv_at hl 0 rfl) ?_
    refine lv_goto (tgt := 10) hx hb dP_inLeastTerms_6 (by decide) ?_
    refine lv_lstore (lv' := [(5, .long u), (0, .long u), (2, .long x), (4, .int pt)]) hx hb dP_inLeastTerms_10 hl (by decide) rfl (fun ls hl => ?_)
    refine lv_lload_n hx hb dP_inLeastTerms_12 rfl (lv_at hl 1 rfl) ?_
    refine va_mabs_long hx hb (hml.trans hl.1.symm) hown (hta _ m_445) (hta _ m_446) (hta _ m_3) (hta _ m_447) (Nat.le_of_ble_eq_true rfl) (Nat.le_of_ble_eq_true rfl) (Nat.zero_le _) (Nat.zero_le _) dP_inLeastTerms_13 ?_
    refine W.eq (g2 := F0 m 16 ls [.long (abL u)]) rfl ?_
    refine lv_lload_n hx hb dP_inLeastTerms_16 rfl (lv_at hl 2 rfl) ?_
    refine rd_call (va_runS (As := [.long (abL u), .long x]) (rest := []) ⟨hx, hb, hml, hown, hta⟩ (c_P_greatestCommon l dC dI ad k (abL u) x) (cwS 2 hta (gS m_448 m_449 m_1 m_450) rfl rfl rfl (by decide +kernel) ⟨Nat.le_of_ble_eq_true rfl, Nat.le_of_ble_eq_true rfl⟩) (rd_S xT_ok trivial (hK.sub [] rfl) va_P_nil) rfl rfl hl.1 rfl (lv_room (Nat.le_of_ble_eq_true rfl)) dP_inLeastTerms_17 ⟨Nat.zero_le _, Nat.zero_le _⟩) ?_
    refine W.eq (g2 := F0 m 20 ls [.long (gcL 100 (abL u) x)]) rfl ?_
    refine lv_lstore (lv' := [(7, .long (gcL 100 (abL u) x)), (5, .long u), (0, .long u), (2, .long x), (4, .int pt)]) hx hb dP_inLeastTerms_20 hl (by decide) rfl (fun ls hl => ?_)
    refine lv_lload hx hb dP_inLeastTerms_22 (lv_at hl 0 rfl) ?_
    refine lv_lconst (v := 0) hx hb dP_inLeastTerms_24 (by decide) ?_
    refine ll_ne (tgt := 34) hx hb dP_inLeastTerms_25 dP_inLeastTerms_26 (by decide) (fun h2 => ?_) (fun h2 => ?_)
    · refine lv_lload hx hb dP_inLeastTerms_34 (lv_at hl 1 rfl) ?_
      refine lv_lload hx hb dP_inLeastTerms_36 (lv_at hl 0 rfl) ?_
      refine lv_ldiv hx hb dP_inLeastTerms_38 (h2) ?_
      exact W.lret (v := u / (gcL 100 (abL u) x)) hx hb hr (fun t ht hW => ⟨congrArg (fun z => Outcome.returned (some (.long z))) (by simp [ltM, h1, h2]), ht⟩) (fun q h => nomatch h) dP_inLeastTerms_39
    · refine lv_lload hx hb dP_inLeastTerms_29 (lv_at hl 1 rfl) ?_
      refine lv_goto (tgt := 39) hx hb dP_inLeastTerms_31 (by decide) ?_
      exact W.lret (v := u) hx hb hr (fun t ht hW => ⟨congrArg (fun z => Outcome.returned (some (.long z))) (by simp [ltM, h1, h2]), ht⟩) (fun q h => nomatch h) dP_inLeastTerms_39
