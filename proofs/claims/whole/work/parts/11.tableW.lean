def RA : String := "java/util/Arrays"
theorem dA_fill_0 : decode bA_fill 0 = .ok (.iconst 0, 1) := by decide +kernel
theorem dA_fill_1 : decode bA_fill 1 = .ok (.istore_n 3, 1) := by decide +kernel
theorem dA_fill_2 : decode bA_fill 2 = .ok (.aload_n 0, 1) := by decide +kernel
theorem dA_fill_3 : decode bA_fill 3 = .ok (.arraylength, 1) := by decide +kernel
theorem dA_fill_4 : decode bA_fill 4 = .ok (.istore 4, 2) := by decide +kernel
theorem dA_fill_6 : decode bA_fill 6 = .ok (.iload_n 3, 1) := by decide +kernel
theorem dA_fill_7 : decode bA_fill 7 = .ok (.iload 4, 2) := by decide +kernel
theorem dA_fill_9 : decode bA_fill 9 = .ok (.if_icmp .ge 13, 3) := by decide +kernel
theorem dA_fill_12 : decode bA_fill 12 = .ok (.aload_n 0, 1) := by decide +kernel
theorem dA_fill_13 : decode bA_fill 13 = .ok (.iload_n 3, 1) := by decide +kernel
theorem dA_fill_14 : decode bA_fill 14 = .ok (.lload_n 1, 1) := by decide +kernel
theorem dA_fill_15 : decode bA_fill 15 = .ok (.lastore, 1) := by decide +kernel
theorem dA_fill_16 : decode bA_fill 16 = .ok (.iinc 3 1, 3) := by decide +kernel
theorem dA_fill_19 : decode bA_fill 19 = .ok (.goto (-13), 3) := by decide +kernel
theorem dA_fill_22 : decode bA_fill 22 = .ok (.return_, 1) := by decide +kernel
set_option maxHeartbeats 4000000 in
set_option maxRecDepth 100000 in
theorem c_A_fill (l : Launch) (dC : Nat → ClassId) (dI : Nat → Nat → Nat) (aa : Nat) (ka : ClassId) (G : Nat → Int64) (sz : Nat) (v : Int64)  : Met l yA_fill wA_fill ({ frames := 0, cells := 0, slots := 0, locals := 0 }) (wPc [.ref aa, .long v] sz (dC, dI) vwCl ([(aa, .inl (ka, 13, .inr (.inl G)))]) ([(ka, .long)]) xT) (wQ none (dC, dI) vwCl ([(aa, .inl (ka, 13, .inr (.inl (fillL v 0 13 G))))]) (va_A ([(aa, .inl (ka, 13, .inr (.inl G)))]) sz)) 0 0 (va_A ([(aa, .inl (ka, 13, .inr (.inl G)))]) sz) := by
  refine Met.ofW (cc := bA_fill) (maxL := 5) (ret := none) (by decide) rfl ?_
  intro p e s m args below meth c s₁ B hml hv
  obtain ⟨rfl, hsz, hP, hK, hD0, hX⟩ := hv
  have hx := B.exec
  have hb := B.bytes
  have hr := B.returns
  have hts := atoms_spec (ws := wA_fill) B.pre
  have hta : ∀ w ∈ AW, w.before _ s = true := fun w h => hts w (List.mem_cons_of_mem _ h)
  have hown : s.vm.findClass RA = some m.cls := findClass_of_methodNamed B.named
  have hlocks := B.notSynchronized
  subst hsz
  have hD := hD0.self (sz := s.heap.size)
  generalize hAe : va_A ([(aa, .inl (ka, 13, .inr (.inl G)))]) s.heap.size = A at hD ⊢
  have hA : ∀ q : Nat, s.heap.size ≤ q → A q := fun q h => by rw [← hAe]; exact Or.inr h
  have hS : va_S A s.heap s.heap [] := va_S.rf
  have hl := lv_entry ([.ref aa, .long v]) (n := 5) (Nat.le_of_ble_eq_true rfl)
  rw [lg_entry_eq]
  generalize (lg_sl ([.ref aa, .long v]) ++ List.replicate (5 - (lg_sl ([.ref aa, .long v])).length) Slot.unset).toArray = ls at hl ⊢
  have hl : lv_has ls 5 [(0, .ref aa), (1, .long v)] := hl
  refine lv_iconst (v := nI 0) hx hb dA_fill_0 (by decide) ?_
  refine lv_istore_n (lv' := [(3, .int (nI 0)), (0, .ref aa), (1, .long v)]) hx hb dA_fill_1 rfl hl (by decide) rfl (fun ls hl => ?_)
  refine lv_aload_n hx hb dA_fill_2 rfl (lv_at hl 1 rfl) ?_
  refine va_alen hx hb hK hP 0 0 rfl rfl (v := nI 13) rfl dA_fill_3 ?_
  refine lv_istore (lv' := [(4, .int (nI 13)), (3, .int (nI 0)), (0, .ref aa), (1, .long v)]) hx hb dA_fill_4 hl (by decide) rfl (fun ls hl => ?_)
  have loop6 : ∀ (n : Nat) (i : Nat) (G2 : Nat → Int64) (H : Heap) (locs : List Loc) (ls : Array Slot), (i + n = 13) → (fillL v i n G2 = fillL v 0 13 G) → va_P (dC, dI) vwCl ([(aa, .inl (ka, 13, .inr (.inl G2)))]) H → va_D A ([(aa, .inl (ka, 13, .inr (.inl G2)))]) → va_S A s.heap H locs → lv_has ls 5 [(3, .int (nI i)), (4, .int (nI 13)), (0, .ref aa), (1, .long v)] → W p l e (headSpec wA_fill ({ frames := 0, cells := 0, slots := 0, locals := 0 })).room s m ([.ref aa, .long v] : List Value).toArray below meth c H locs 0 0 (MQ below (wQ none (dC, dI) vwCl ([(aa, .inl (ka, 13, .inr (.inl (fillL v 0 13 G))))]) A) ([.ref aa, .long v] : List Value).toArray s 0 0 A) (F0 m 6 ls []) := by
    intro n
    induction n with
    | zero =>
      intro i G2 H locs ls hn hq hP hD hS hl
      refine lv_iload_n hx hb dA_fill_6 rfl (lv_at hl 0 rfl) ?_
      refine lv_iload hx hb dA_fill_7 (lv_at hl 1 rfl) ?_
      refine ni_ge (tgt := 22) hx hb dA_fill_9 (by decide) (by omega) (by omega) (fun c_1 => ?_) (fun c_1 => ?_)
      · exact W.vret hx hb hr (fun t ht hW => ⟨rfl, by rw [ht]; exact (by rw [← hq]; exact hP), hS.F ht⟩) hS.2.2 dA_fill_22
      · exfalso; omega
    | succ n ih =>
      intro i G2 H locs ls hn hq hP hD hS hl
      refine lv_iload_n hx hb dA_fill_6 rfl (lv_at hl 0 rfl) ?_
      refine lv_iload hx hb dA_fill_7 (lv_at hl 1 rfl) ?_
      refine ni_ge (tgt := 22) hx hb dA_fill_9 (by decide) (by omega) (by omega) (fun c_2 => ?_) (fun c_2 => ?_)
      · exfalso; omega
      · refine lv_aload_n hx hb dA_fill_12 rfl (lv_at hl 2 rfl) ?_
        refine lv_iload_n hx hb dA_fill_13 rfl (lv_at hl 0 rfl) ?_
        refine lv_lload_n hx hb dA_fill_14 rfl (lv_at hl 3 rfl) ?_
        refine na_last hx hb hK hP hD hS 0 0 rfl rfl (i := i) (x := v) (by omega) (by decide) dA_fill_15 (fun H locs hP hD hS => ?_)
        have hP : va_P (dC, dI) vwCl ([(aa, .inl (ka, 13, .inr (.inl (vp_updL G2 i v))))]) H := hP
        have hD : va_D A ([(aa, .inl (ka, 13, .inr (.inl (vp_updL G2 i v))))]) := hD
        refine lv_iinc (v := nI (i + 1)) (lv' := [(3, .int (nI (i + 1))), (4, .int (nI 13)), (0, .ref aa), (1, .long v)]) hx hb dA_fill_16 hl (k := 0) rfl (nI_add i 1) (by decide) rfl (fun ls hl => ?_)
        refine lv_goto (tgt := 6) hx hb dA_fill_19 (by decide) ?_
        exact ih (i + 1) (vp_updL G2 i v) H locs ls (by omega) (by rw [← hq]; rfl) hP hD hS (lv_sub hl [0, 1, 2, 3] rfl)
  exact loop6 13 0 G s.heap [] ls (by omega) rfl hP hD hS (lv_sub hl [1, 0, 2, 3] rfl)

set_option maxHeartbeats 4000000 in
set_option maxRecDepth 100000 in
theorem c_T_setCell (l : Launch) (dC : Nat → ClassId) (dI : Nat → Nat → Nat) (ad : Nat → Nat) (k : Nat → ClassId) (T : TS) (sz : Nat) (i j : Nat) (v : Int64) (hi : i * 13 + j < 325) : Met l yT_setCell wT_setCell ({ frames := 0, cells := 0, slots := 0, locals := 0 }) (wPc [.ref (ad 0), .int (nI i), .int (nI j), .long v] sz (dC, dI) vwCl (TW ad k T) (TK k) xT) (wQ none (dC, dI) vwCl (TW ad k (ts (vp_updL T.C (i * 13 + j) v) T.I T.O T.G T.S T.w T.h T.d)) (va_A (TW ad k T) sz)) 0 0 (va_A (TW ad k T) sz) := by
  refine Met.ofW (cc := bT_setCell) (maxL := 5) (ret := none) (by decide) rfl ?_
  intro p e s m args below meth c s₁ B hml hv
  obtain ⟨rfl, hsz, hP, hK, hD0, hX⟩ := hv
  have hx := B.exec
  have hb := B.bytes
  have hr := B.returns
  have hts := atoms_spec (ws := wT_setCell) B.pre
  have hta : ∀ w ∈ AW, w.before _ s = true := fun w h => hts w (List.mem_cons_of_mem _ h)
  have hown : s.vm.findClass RT = some m.cls := findClass_of_methodNamed B.named
  have hlocks := B.notSynchronized
  subst hsz
  have hD := hD0.self (sz := s.heap.size)
  generalize hAe : va_A (TW ad k T) s.heap.size = A at hD ⊢
  have hA : ∀ q : Nat, s.heap.size ≤ q → A q := fun q h => by rw [← hAe]; exact Or.inr h
  have hS : va_S A s.heap s.heap [] := va_S.rf
  have hl := lv_entry ([.ref (ad 0), .int (nI i), .int (nI j), .long v]) (n := 5) (Nat.le_of_ble_eq_true rfl)
  rw [lg_entry_eq]
  generalize (lg_sl ([.ref (ad 0), .int (nI i), .int (nI j), .long v]) ++ List.replicate (5 - (lg_sl ([.ref (ad 0), .int (nI i), .int (nI j), .long v])).length) Slot.unset).toArray = ls at hl ⊢
  have hl : lv_has ls 5 [(0, .ref (ad 0)), (1, .int (nI i)), (2, .int (nI j)), (3, .long v)] := hl
  refine lv_aload_n hx hb dT_setCell_0 rfl (lv_at hl 0 rfl) ?_
  refine va_get (D := (dC, dI)) (ci := 0) (v := .ref (ad 1)) (C := RT) (T := FT) (N := 8) hx hb hta iT hown hK hP 0 rfl rfl 0 (by decide) (hta _ m_26) (fun _ h9 => h9) rfl dT_setCell_1 ?_
  refine lv_iload_n hx hb dT_setCell_4 rfl (lv_at hl 1 rfl) ?_
  refine lv_bipush (v := nI 13) hx hb dT_setCell_5 (by decide) ?_
  refine lv_imul hx hb dT_setCell_7 ?_
  refine st_i (y := nI (i * 13)) (pk_mul _ _) ?_
  refine lv_iload_n hx hb dT_setCell_8 rfl (lv_at hl 2 rfl) ?_
  refine lv_iadd hx hb dT_setCell_9 ?_
  refine st_i (y := nI ((i * 13) + j)) (nI_add _ _) ?_
  refine lv_lload_n hx hb dT_setCell_10 rfl (lv_at hl 3 rfl) ?_
  refine na_last hx hb hK hP hD hS 1 0 rfl rfl (i := ((i * 13) + j)) (x := v) (by omega) (by decide) dT_setCell_11 (fun H locs hP hD hS => ?_)
  have hP : va_P (dC, dI) vwCl (TW ad k (ts (vp_updL T.C ((i * 13) + j) v) T.I T.O T.G T.S T.w T.h T.d)) H := hP
  have hD : va_D A (TW ad k (ts (vp_updL T.C ((i * 13) + j) v) T.I T.O T.G T.S T.w T.h T.d)) := hD
  exact W.vret hx hb hr (fun t ht hW => ⟨rfl, by rw [ht]; exact hP, hS.F ht⟩) hS.2.2 dT_setCell_12

set_option maxHeartbeats 4000000 in
set_option maxRecDepth 100000 in
theorem c_T_addColumn (l : Launch) (dC : Nat → ClassId) (dI : Nat → Nat → Nat) (ad : Nat → Nat) (k : Nat → ClassId) (T : TS) (sz : Nat) (v : Int64) (hw : T.w < 12) : Met l yT_addColumn wT_addColumn ({ frames := 1, cells := 0, slots := 0, locals := 24 }) (wPc [.ref (ad 0), .long v] sz (dC, dI) vwCl (TW ad k T) (TK k) xT) (wQ (some (.int (nI T.w))) (dC, dI) vwCl (TW ad k (ts (vp_updL T.C (0 * 13 + (T.w + 1)) v) T.I (upd T.O (T.w + 1) (nI T.w)) T.G T.S (T.w + 1) T.h T.d)) (va_A (TW ad k T) sz)) 0 0 (va_A (TW ad k T) sz) := by
  refine Met.ofW (cc := bT_addColumn) (maxL := 4) (ret := (some .int)) (by decide) rfl ?_
  intro p e s m args below meth c s₁ B hml hv
  obtain ⟨rfl, hsz, hP, hK, hD0, hX⟩ := hv
  have hx := B.exec
  have hb := B.bytes
  have hr := B.returns
  have hts := atoms_spec (ws := wT_addColumn) B.pre
  have hta : ∀ w ∈ AW, w.before _ s = true := fun w h => hts w (List.mem_cons_of_mem _ h)
  have hown : s.vm.findClass RT = some m.cls := findClass_of_methodNamed B.named
  have hlocks := B.notSynchronized
  subst hsz
  have hD := hD0.self (sz := s.heap.size)
  generalize hAe : va_A (TW ad k T) s.heap.size = A at hD ⊢
  have hA : ∀ q : Nat, s.heap.size ≤ q → A q := fun q h => by rw [← hAe]; exact Or.inr h
  have hS : va_S A s.heap s.heap [] := va_S.rf
  have hl := lv_entry ([.ref (ad 0), .long v]) (n := 4) (Nat.le_of_ble_eq_true rfl)
  rw [lg_entry_eq]
  generalize (lg_sl ([.ref (ad 0), .long v]) ++ List.replicate (4 - (lg_sl ([.ref (ad 0), .long v])).length) Slot.unset).toArray = ls at hl ⊢
  have hl : lv_has ls 4 [(0, .ref (ad 0)), (1, .long v)] := hl
  refine lv_aload_n hx hb dT_addColumn_0 rfl (lv_at hl 0 rfl) ?_
  refine va_get (D := (dC, dI)) (ci := 0) (v := .int (nI T.w)) (C := RT) (T := FT) (N := 8) hx hb hta iT hown hK hP 0 rfl rfl 5 (by decide) (hta _ m_32) (fun _ h9 => h9) rfl dT_addColumn_1 ?_
  refine lv_istore_n (lv' := [(3, .int (nI T.w)), (0, .ref (ad 0)), (1, .long v)]) hx hb dT_addColumn_4 rfl hl (by decide) rfl (fun ls hl => ?_)
  refine lv_aload_n hx hb dT_addColumn_5 rfl (lv_at hl 1 rfl) ?_
  refine lv_dup hx hb dT_addColumn_6 rfl ?_
  refine va_get (D := (dC, dI)) (ci := 0) (v := .int (nI T.w)) (C := RT) (T := FT) (N := 8) hx hb hta iT hown hK hP 0 rfl rfl 5 (by decide) (hta _ m_32) (fun _ h9 => h9) rfl dT_addColumn_7 ?_
  refine lv_iconst (v := nI 1) hx hb dT_addColumn_10 (by decide) ?_
  refine lv_iadd hx hb dT_addColumn_11 ?_
  refine st_i (y := nI (T.w + 1)) (nI_add _ _) ?_
  refine va_put (D := (dC, dI)) (ci := 0) (v := .int (nI (T.w + 1))) (ty := .int) (C := RT) (T := FT) (N := 8) hx hb hta iT tT tT_ok nT hown hK hP hD hS 0 rfl rfl 5 (by decide) (hta _ m_32) (fun _ h9 => h9) rfl (by decide +kernel) rfl rfl (Nat.le_of_ble_eq_true rfl) dT_addColumn_12 (fun H locs hP hD hS => ?_)
  have hP : va_P (dC, dI) vwCl (TW ad k (ts T.C T.I T.O T.G T.S (T.w + 1) T.h T.d)) H := hP
  have hD : va_D A (TW ad k (ts T.C T.I T.O T.G T.S (T.w + 1) T.h T.d)) := hD
  refine lv_aload_n hx hb dT_addColumn_15 rfl (lv_at hl 1 rfl) ?_
  refine va_get (D := (dC, dI)) (ci := 0) (v := .ref (ad 3)) (C := RT) (T := FT) (N := 8) hx hb hta iT hown hK hP 0 rfl rfl 2 (by decide) (hta _ m_29) (fun _ h9 => h9) rfl dT_addColumn_16 ?_
  refine lv_aload_n hx hb dT_addColumn_19 rfl (lv_at hl 1 rfl) ?_
  refine va_get (D := (dC, dI)) (ci := 0) (v := .int (nI (T.w + 1))) (C := RT) (T := FT) (N := 8) hx hb hta iT hown hK hP 0 rfl rfl 5 (by decide) (hta _ m_32) (fun _ h9 => h9) rfl dT_addColumn_20 ?_
  refine lv_iload_n hx hb dT_addColumn_23 rfl (lv_at hl 0 rfl) ?_
  refine na_iast hx hb hK hP hD hS 3 2 rfl rfl (i := (T.w + 1)) (x := nI T.w) (by omega) (by decide) dT_addColumn_24 (fun H locs hP hD hS => ?_)
  have hP : va_P (dC, dI) vwCl (TW ad k (ts T.C T.I (upd T.O (T.w + 1) (nI T.w)) T.G T.S (T.w + 1) T.h T.d)) H := hP
  have hD : va_D A (TW ad k (ts T.C T.I (upd T.O (T.w + 1) (nI T.w)) T.G T.S (T.w + 1) T.h T.d)) := hD
  refine lv_aload_n hx hb dT_addColumn_25 rfl (lv_at hl 1 rfl) ?_
  refine lv_iconst (v := nI 0) hx hb dT_addColumn_26 (by decide) ?_
  refine lv_aload_n hx hb dT_addColumn_27 rfl (lv_at hl 1 rfl) ?_
  refine va_get (D := (dC, dI)) (ci := 0) (v := .int (nI (T.w + 1))) (C := RT) (T := FT) (N := 8) hx hb hta iT hown hK hP 0 rfl rfl 5 (by decide) (hta _ m_32) (fun _ h9 => h9) rfl dT_addColumn_28 ?_
  refine lv_lload_n hx hb dT_addColumn_31 rfl (lv_at hl 2 rfl) ?_
  refine wr_call (X := ([] : va_W)) (va_runV (As := [.int (nI 0), .int (nI (T.w + 1)), .long v]) (rest := []) ⟨hx, hb, hml, hown, hta⟩ (c_T_setCell l dC dI ad k (ts T.C T.I (upd T.O (T.w + 1) (nI T.w)) T.G T.S (T.w + 1) T.h T.d) H.size 0 (T.w + 1) v (by first | omega | exact hw | exact hh)) (cwV 3 hta (gV m_240 m_242 mp_8 m_2 m_243) rfl rfl rfl (by decide +kernel) ⟨Nat.le_of_ble_eq_true rfl, Nat.le_of_ble_eq_true rfl⟩) (wr_V xT_ok trivial hK hP hD (ci := 0) (q0 := 0) rfl rfl) rfl rfl hl.1 rfl (lv_room (Nat.le_of_ble_eq_true rfl)) dT_addColumn_32 ⟨Nat.zero_le _, Nat.zero_le _⟩) hP hD hS hA rfl (fun H locs hP hD hS => ?_)
  have hP : va_P (dC, dI) vwCl (TW ad k (ts (vp_updL T.C (0 * 13 + (T.w + 1)) v) T.I (upd T.O (T.w + 1) (nI T.w)) T.G T.S (T.w + 1) T.h T.d)) H := hP
  have hD : va_D A (TW ad k (ts (vp_updL T.C (0 * 13 + (T.w + 1)) v) T.I (upd T.O (T.w + 1) (nI T.w)) T.G T.S (T.w + 1) T.h T.d)) := hD
  refine W.eq (g2 := F0 m 35 ls []) rfl ?_
  refine lv_iload_n hx hb dT_addColumn_35 rfl (lv_at hl 0 rfl) ?_
  exact W.iret (v := nI T.w) hx hb hr (fun t ht hW => ⟨rfl, by rw [ht]; exact hP, hS.F ht⟩) hS.2.2 dT_addColumn_36

set_option maxHeartbeats 4000000 in
set_option maxRecDepth 100000 in
theorem c_T_tellColumn (l : Launch) (dC : Nat → ClassId) (dI : Nat → Nat → Nat) (ad : Nat → Nat) (k : Nat → ClassId) (T : TS) (sz : Nat) (v : Int32) (f : Int64) (hw : T.w ≤ 12) (hh : T.h ≤ 24) : Met l yT_tellColumn wT_tellColumn ({ frames := 1, cells := 0, slots := 0, locals := 22 }) (wPc [.ref (ad 0), .int v, .long f] sz (dC, dI) vwCl (TW ad k T) (TK k) xT) (wQ none (dC, dI) vwCl (TW ad k (ts T.C T.I T.O (tcM T v f T.G) T.S T.w T.h T.d)) (va_A (TW ad k T) sz)) 0 0 (va_A (TW ad k T) sz) := by
  refine Met.ofW (cc := bT_tellColumn) (maxL := 7) (ret := none) (by decide) rfl ?_
  intro p e s m args below meth c s₁ B hml hv
  obtain ⟨rfl, hsz, hP, hK, hD0, hX⟩ := hv
  have hx := B.exec
  have hb := B.bytes
  have hr := B.returns
  have hts := atoms_spec (ws := wT_tellColumn) B.pre
  have hta : ∀ w ∈ AW, w.before _ s = true := fun w h => hts w (List.mem_cons_of_mem _ h)
  have hown : s.vm.findClass RT = some m.cls := findClass_of_methodNamed B.named
  have hlocks := B.notSynchronized
  subst hsz
  have hD := hD0.self (sz := s.heap.size)
  generalize hAe : va_A (TW ad k T) s.heap.size = A at hD ⊢
  have hA : ∀ q : Nat, s.heap.size ≤ q → A q := fun q h => by rw [← hAe]; exact Or.inr h
  have hS : va_S A s.heap s.heap [] := va_S.rf
  have hl := lv_entry ([.ref (ad 0), .int v, .long f]) (n := 7) (Nat.le_of_ble_eq_true rfl)
  rw [lg_entry_eq]
  generalize (lg_sl ([.ref (ad 0), .int v, .long f]) ++ List.replicate (7 - (lg_sl ([.ref (ad 0), .int v, .long f])).length) Slot.unset).toArray = ls at hl ⊢
  have hl : lv_has ls 7 [(0, .ref (ad 0)), (1, .int v), (2, .long f)] := hl
  refine lv_aload_n hx hb dT_tellColumn_0 rfl (lv_at hl 0 rfl) ?_
  refine lv_iload_n hx hb dT_tellColumn_1 rfl (lv_at hl 1 rfl) ?_
  refine rd_call (va_runV (As := [.int v]) (rest := []) ⟨hx, hb, hml, hown, hta⟩ (c_T_placeOutside l dC dI ad k T v (by first | omega | exact hw | exact hh)) (cwV 1 hta (gV m_342 m_344 mp_19 m_2 m_345) rfl rfl rfl (by decide +kernel) ⟨Nat.le_of_ble_eq_true rfl, Nat.le_of_ble_eq_true rfl⟩) (rd_V xT_ok trivial hK hP (ci := 0) (q0 := 0) rfl rfl) rfl rfl hl.1 rfl (lv_room (Nat.le_of_ble_eq_true rfl)) dT_tellColumn_2 ⟨Nat.zero_le _, Nat.zero_le _⟩) ?_
  refine W.eq (g2 := F0 m 5 ls [.int (enc (fnd T.O v 1 T.w))]) rfl ?_
  refine lv_istore (lv' := [(4, .int (enc (fnd T.O v 1 T.w))), (0, .ref (ad 0)), (1, .int v), (2, .long f)]) hx hb dT_tellColumn_5 hl (by decide) rfl (fun ls hl => ?_)
  refine lv_iload hx hb dT_tellColumn_7 (lv_at hl 0 rfl) ?_
  refine lv_iconst (v := (-1)) hx hb dT_tellColumn_9 (by decide) ?_
  refine en_eq (o := (fnd T.O v 1 T.w)) (tgt := 30) hx hb dT_tellColumn_10 (by decide) (fun j h => by have := fnd_lt h; omega) (fun ho => ?_) (fun j_1 ho => ?_)
  · rw [ho] at hl
    have hl : lv_has ls 7 [(4, .int (-1)), (0, .ref (ad 0)), (1, .int v), (2, .long f)] := hl
    refine lv_aload_n hx hb dT_tellColumn_30 rfl (lv_at hl 1 rfl) ?_
    refine lv_iload_n hx hb dT_tellColumn_31 rfl (lv_at hl 2 rfl) ?_
    refine rd_call (va_runV (As := [.int v]) (rest := []) ⟨hx, hb, hml, hown, hta⟩ (c_T_placeInside l dC dI ad k T v (by first | omega | exact hw | exact hh)) (cwV 1 hta (gV m_119 m_121 mp_3 m_2 m_122) rfl rfl rfl (by decide +kernel) ⟨Nat.le_of_ble_eq_true rfl, Nat.le_of_ble_eq_true rfl⟩) (rd_V xT_ok trivial hK hP (ci := 0) (q0 := 0) rfl rfl) rfl rfl hl.1 rfl (lv_room (Nat.le_of_ble_eq_true rfl)) dT_tellColumn_32 ⟨Nat.zero_le _, Nat.zero_le _⟩) ?_
    refine W.eq (g2 := F0 m 35 ls [.int (enc (fnd T.I v 1 T.h))]) rfl ?_
    refine lv_istore (lv' := [(5, .int (enc (fnd T.I v 1 T.h))), (4, .int (-1)), (0, .ref (ad 0)), (1, .int v), (2, .long f)]) hx hb dT_tellColumn_35 hl (by decide) rfl (fun ls hl => ?_)
    refine lv_iconst (v := nI 0) hx hb dT_tellColumn_37 (by decide) ?_
    refine lv_istore (lv' := [(6, .int (nI 0)), (5, .int (enc (fnd T.I v 1 T.h))), (4, .int (-1)), (0, .ref (ad 0)), (1, .int v), (2, .long f)]) hx hb dT_tellColumn_38 hl (by decide) rfl (fun ls hl => ?_)
    rcases hi9 : fnd T.I v 1 T.h with _ | i
    · rw [hi9] at hl
      have hl : lv_has ls 7 [(6, .int (nI 0)), (5, .int (-1)), (4, .int (-1)), (0, .ref (ad 0)), (1, .int v), (2, .long f)] := hl
      refine lv_iload hx hb dT_tellColumn_40 (lv_at hl 1 rfl) ?_
      refine lv_iconst (v := (-1)) hx hb dT_tellColumn_42 (by decide) ?_
      refine lv_icmp_eq (tgt := 81) hx hb dT_tellColumn_43 (by decide) (fun hz => ?_) (fun hz => ?_)
      · exact W.vret hx hb hr (fun t ht hW => ⟨rfl, by rw [ht]; exact (by rw [show tcM T v f T.G = T.G by simp only [tcM, ho, hi9]]; exact hP), hS.F ht⟩) hS.2.2 dT_tellColumn_81
      · exact absurd rfl hz
    · rw [hi9] at hl
      have hl : lv_has ls 7 [(6, .int (nI 0)), (5, .int (nI i)), (4, .int (-1)), (0, .ref (ad 0)), (1, .int v), (2, .long f)] := hl
      have hi8 := fnd_lt hi9
      have loop40 : ∀ (n : Nat) (j : Nat) (G : Nat → Int64) (H : Heap) (locs : List Loc) (ls : Array Slot), (j + n = T.w + 1) → (tcL T.C i f j n G = tcL T.C i f 0 (T.w + 1) T.G) → va_P (dC, dI) vwCl (TW ad k (ts T.C T.I T.O G T.S T.w T.h T.d)) H → va_D A (TW ad k (ts T.C T.I T.O G T.S T.w T.h T.d)) → va_S A s.heap H locs → lv_has ls 7 [(6, .int (nI j)), (5, .int (nI i)), (4, .int (-1)), (0, .ref (ad 0)), (1, .int v), (2, .long f)] → W p l e (headSpec wT_tellColumn ({ frames := 1, cells := 0, slots := 0, locals := 22 })).room s m ([.ref (ad 0), .int v, .long f] : List Value).toArray below meth c H locs 0 0 (MQ below (wQ none (dC, dI) vwCl (TW ad k (ts T.C T.I T.O (tcM T v f T.G) T.S T.w T.h T.d)) A) ([.ref (ad 0), .int v, .long f] : List Value).toArray s 0 0 A) (F0 m 40 ls []) := by
        intro n
        induction n with
        | zero =>
          intro j G H locs ls hn hq hP hD hS hl
          refine lv_iload hx hb dT_tellColumn_40 (lv_at hl 1 rfl) ?_
          refine lv_iconst (v := (-1)) hx hb dT_tellColumn_42 (by decide) ?_
          refine lv_icmp_eq (tgt := 81) hx hb dT_tellColumn_43 (by decide) (fun hz => ?_) (fun hz => ?_)
          · exact absurd hz (enc_some (by omega))
          · refine lv_iload hx hb dT_tellColumn_46 (lv_at hl 0 rfl) ?_
            refine lv_aload_n hx hb dT_tellColumn_48 rfl (lv_at hl 3 rfl) ?_
            refine va_get (D := (dC, dI)) (ci := 0) (v := .int (nI T.w)) (C := RT) (T := FT) (N := 8) hx hb hta iT hown hK hP 0 rfl rfl 5 (by decide) (hta _ m_32) (fun _ h9 => h9) rfl dT_tellColumn_49 ?_
            refine ni_gt (tgt := 81) hx hb dT_tellColumn_52 (by decide) (by omega) (by omega) (fun c_2 => ?_) (fun c_2 => ?_)
            · exact W.vret hx hb hr (fun t ht hW => ⟨rfl, by rw [ht]; exact (by rw [show tcM T v f T.G = G by (simp only [tcM, ho, hi9]; exact hq.symm)]; exact hP), hS.F ht⟩) hS.2.2 dT_tellColumn_81
            · exfalso; omega
        | succ n ih =>
          intro j G H locs ls hn hq hP hD hS hl
          refine lv_iload hx hb dT_tellColumn_40 (lv_at hl 1 rfl) ?_
          refine lv_iconst (v := (-1)) hx hb dT_tellColumn_42 (by decide) ?_
          refine lv_icmp_eq (tgt := 81) hx hb dT_tellColumn_43 (by decide) (fun hz => ?_) (fun hz => ?_)
          · exact absurd hz (enc_some (by omega))
          · refine lv_iload hx hb dT_tellColumn_46 (lv_at hl 0 rfl) ?_
            refine lv_aload_n hx hb dT_tellColumn_48 rfl (lv_at hl 3 rfl) ?_
            refine va_get (D := (dC, dI)) (ci := 0) (v := .int (nI T.w)) (C := RT) (T := FT) (N := 8) hx hb hta iT hown hK hP 0 rfl rfl 5 (by decide) (hta _ m_32) (fun _ h9 => h9) rfl dT_tellColumn_49 ?_
            refine ni_gt (tgt := 81) hx hb dT_tellColumn_52 (by decide) (by omega) (by omega) (fun c_3 => ?_) (fun c_3 => ?_)
            · exfalso; omega
            · refine lv_aload_n hx hb dT_tellColumn_55 rfl (lv_at hl 3 rfl) ?_
              refine va_get (D := (dC, dI)) (ci := 0) (v := .ref (ad 4)) (C := RT) (T := FT) (N := 8) hx hb hta iT hown hK hP 0 rfl rfl 3 (by decide) (hta _ m_30) (fun _ h9 => h9) rfl dT_tellColumn_56 ?_
              refine lv_iload hx hb dT_tellColumn_59 (lv_at hl 0 rfl) ?_
              refine lv_dup2_11 hx hb dT_tellColumn_61 rfl rfl ?_
              refine na_lald hx hb hK hP 4 3 rfl rfl (i := j) (by omega) (by decide) dT_tellColumn_62 ?_
              refine lv_lload_n hx hb dT_tellColumn_63 rfl (lv_at hl 5 rfl) ?_
              refine lv_aload_n hx hb dT_tellColumn_64 rfl (lv_at hl 3 rfl) ?_
              refine lv_iload hx hb dT_tellColumn_65 (lv_at hl 1 rfl) ?_
              refine lv_iload hx hb dT_tellColumn_67 (lv_at hl 0 rfl) ?_
              refine rd_call (va_runV (As := [.int (nI i), .int (nI j)]) (rest := [.long f, .long (G j), .int (nI j), .ref (ad 4)]) ⟨hx, hb, hml, hown, hta⟩ (c_T_cell l dC dI ad k (ts T.C T.I T.O G T.S T.w T.h T.d) i j (by first | omega | exact hw | exact hh)) (cwV 2 hta (gV m_123 m_125 mp_4 m_2 m_126) rfl rfl rfl (by decide +kernel) ⟨Nat.le_of_ble_eq_true rfl, Nat.le_of_ble_eq_true rfl⟩) (rd_V xT_ok trivial hK hP (ci := 0) (q0 := 0) rfl rfl) rfl rfl hl.1 rfl (lv_room (Nat.le_of_ble_eq_true rfl)) dT_tellColumn_69 ⟨Nat.zero_le _, Nat.zero_le _⟩) ?_
              refine W.eq (g2 := F0 m 72 ls [.long (T.C (i * 13 + j)), .long f, .long (G j), .int (nI j), .ref (ad 4)]) rfl ?_
              refine lv_lmul hx hb dT_tellColumn_72 ?_
              refine lv_ladd hx hb dT_tellColumn_73 ?_
              refine na_last hx hb hK hP hD hS 4 3 rfl rfl (i := j) (x := (G j) + (f * (T.C (i * 13 + j)))) (by omega) (by decide) dT_tellColumn_74 (fun H locs hP hD hS => ?_)
              have hP : va_P (dC, dI) vwCl (TW ad k (ts T.C T.I T.O (vp_updL G j ((G j) + (f * (T.C (i * 13 + j))))) T.S T.w T.h T.d)) H := hP
              have hD : va_D A (TW ad k (ts T.C T.I T.O (vp_updL G j ((G j) + (f * (T.C (i * 13 + j))))) T.S T.w T.h T.d)) := hD
              refine lv_iinc (v := nI (j + 1)) (lv' := [(6, .int (nI (j + 1))), (5, .int (nI i)), (4, .int (-1)), (0, .ref (ad 0)), (1, .int v), (2, .long f)]) hx hb dT_tellColumn_75 hl (k := 0) rfl (nI_add j 1) (by decide) rfl (fun ls hl => ?_)
              refine lv_goto (tgt := 40) hx hb dT_tellColumn_78 (by decide) ?_
              exact ih (j + 1) (vp_updL G j ((G j) + (f * (T.C (i * 13 + j))))) H locs ls (by omega) (by rw [← hq]; rfl) hP hD hS (lv_sub hl [0, 1, 2, 3, 4, 5] rfl)
      exact loop40 (T.w + 1) 0 T.G s.heap [] ls (by omega) rfl hP hD hS (lv_sub hl [0, 1, 2, 3, 4, 5] rfl)
  · rw [ho] at hl
    have hl : lv_has ls 7 [(4, .int (nI j_1)), (0, .ref (ad 0)), (1, .int v), (2, .long f)] := hl
    have hj_1 := fnd_lt ho
    refine lv_aload_n hx hb dT_tellColumn_13 rfl (lv_at hl 1 rfl) ?_
    refine va_get (D := (dC, dI)) (ci := 0) (v := .ref (ad 4)) (C := RT) (T := FT) (N := 8) hx hb hta iT hown hK hP 0 rfl rfl 3 (by decide) (hta _ m_30) (fun _ h9 => h9) rfl dT_tellColumn_14 ?_
    refine lv_iload hx hb dT_tellColumn_17 (lv_at hl 0 rfl) ?_
    refine lv_dup2_11 hx hb dT_tellColumn_19 rfl rfl ?_
    refine na_lald hx hb hK hP 4 3 rfl rfl (i := j_1) (by omega) (by decide) dT_tellColumn_20 ?_
    refine lv_lload_n hx hb dT_tellColumn_21 rfl (lv_at hl 3 rfl) ?_
    refine lv_aload_n hx hb dT_tellColumn_22 rfl (lv_at hl 1 rfl) ?_
    refine va_get (D := (dC, dI)) (ci := 0) (v := .long T.d) (C := RT) (T := FT) (N := 8) hx hb hta iT hown hK hP 0 rfl rfl 7 (by decide) (hta _ m_36) (fun _ h9 => h9) rfl dT_tellColumn_23 ?_
    refine lv_lmul hx hb dT_tellColumn_26 ?_
    refine lv_ladd hx hb dT_tellColumn_27 ?_
    refine na_last hx hb hK hP hD hS 4 3 rfl rfl (i := j_1) (x := (T.G j_1) + (f * T.d)) (by omega) (by decide) dT_tellColumn_28 (fun H locs hP hD hS => ?_)
    have hP : va_P (dC, dI) vwCl (TW ad k (ts T.C T.I T.O (vp_updL T.G j_1 ((T.G j_1) + (f * T.d))) T.S T.w T.h T.d)) H := hP
    have hD : va_D A (TW ad k (ts T.C T.I T.O (vp_updL T.G j_1 ((T.G j_1) + (f * T.d))) T.S T.w T.h T.d)) := hD
    exact W.vret hx hb hr (fun t ht hW => ⟨rfl, by rw [ht]; exact (by simpa only [tcM, ho] using hP), hS.F ht⟩) hS.2.2 dT_tellColumn_29

set_option maxHeartbeats 4000000 in
set_option maxRecDepth 100000 in
theorem c_T_bringTold (l : Launch) (dC : Nat → ClassId) (dI : Nat → Nat → Nat) (ad : Nat → Nat) (k : Nat → ClassId) (T : TS) (sz : Nat) (sg : Int32) (hw : T.w ≤ 12) (hh : T.h ≤ 24) : Met l yT_bringTold wT_bringTold ({ frames := 1, cells := 0, slots := 0, locals := 24 }) (wPc [.ref (ad 0), .int sg] sz (dC, dI) vwCl (TW ad k T) (TK k) xT) (wQ none (dC, dI) vwCl (TW ad k (btM T sg)) (va_A (TW ad k T) sz)) 0 0 (va_A (TW ad k T) sz) := by
  refine Met.ofW (cc := bT_bringTold) (maxL := 4) (ret := none) (by decide) rfl ?_
  intro p e s m args below meth c s₁ B hml hv
  obtain ⟨rfl, hsz, hP, hK, hD0, hX⟩ := hv
  have hx := B.exec
  have hb := B.bytes
  have hr := B.returns
  have hts := atoms_spec (ws := wT_bringTold) B.pre
  have hta : ∀ w ∈ AW, w.before _ s = true := fun w h => hts w (List.mem_cons_of_mem _ h)
  have hown : s.vm.findClass RT = some m.cls := findClass_of_methodNamed B.named
  have hlocks := B.notSynchronized
  subst hsz
  have hD := hD0.self (sz := s.heap.size)
  generalize hAe : va_A (TW ad k T) s.heap.size = A at hD ⊢
  have hA : ∀ q : Nat, s.heap.size ≤ q → A q := fun q h => by rw [← hAe]; exact Or.inr h
  have hS : va_S A s.heap s.heap [] := va_S.rf
  have hl := lv_entry ([.ref (ad 0), .int sg]) (n := 4) (Nat.le_of_ble_eq_true rfl)
  rw [lg_entry_eq]
  generalize (lg_sl ([.ref (ad 0), .int sg]) ++ List.replicate (4 - (lg_sl ([.ref (ad 0), .int sg])).length) Slot.unset).toArray = ls at hl ⊢
  have hl : lv_has ls 4 [(0, .ref (ad 0)), (1, .int sg)] := hl
  refine lv_aload_n hx hb dT_bringTold_0 rfl (lv_at hl 0 rfl) ?_
  refine va_get (D := (dC, dI)) (ci := 0) (v := .int (nI T.h)) (C := RT) (T := FT) (N := 8) hx hb hta iT hown hK hP 0 rfl rfl 6 (by decide) (hta _ m_34) (fun _ h9 => h9) rfl dT_bringTold_1 ?_
  refine lv_bipush (v := nI 24) hx hb dT_bringTold_4 (by decide) ?_
  refine ni_lt (tgt := 10) hx hb dT_bringTold_6 (by decide) (by omega) (by omega) (fun h1 => ?_) (fun h1 => ?_)
  · refine lv_aload_n hx hb dT_bringTold_10 rfl (lv_at hl 0 rfl) ?_
    refine va_get (D := (dC, dI)) (ci := 0) (v := .int (nI T.w)) (C := RT) (T := FT) (N := 8) hx hb hta iT hown hK hP 0 rfl rfl 5 (by decide) (hta _ m_32) (fun _ h9 => h9) rfl dT_bringTold_11 ?_
    refine lv_aload_n hx hb dT_bringTold_14 rfl (lv_at hl 0 rfl) ?_
    refine va_get (D := (dC, dI)) (ci := 0) (v := .int (nI T.h)) (C := RT) (T := FT) (N := 8) hx hb hta iT hown hK hP 0 rfl rfl 6 (by decide) (hta _ m_34) (fun _ h9 => h9) rfl dT_bringTold_15 ?_
    refine lv_iadd hx hb dT_bringTold_18 ?_
    refine st_i (y := nI (T.w + T.h)) (nI_add _ _) ?_
    refine lv_istore_n (lv' := [(2, .int (nI (T.w + T.h))), (0, .ref (ad 0)), (1, .int sg)]) hx hb dT_bringTold_19 rfl hl (by decide) rfl (fun ls hl => ?_)
    refine lv_aload_n hx hb dT_bringTold_20 rfl (lv_at hl 1 rfl) ?_
    refine lv_dup hx hb dT_bringTold_21 rfl ?_
    refine va_get (D := (dC, dI)) (ci := 0) (v := .int (nI T.h)) (C := RT) (T := FT) (N := 8) hx hb hta iT hown hK hP 0 rfl rfl 6 (by decide) (hta _ m_34) (fun _ h9 => h9) rfl dT_bringTold_22 ?_
    refine lv_iconst (v := nI 1) hx hb dT_bringTold_25 (by decide) ?_
    refine lv_iadd hx hb dT_bringTold_26 ?_
    refine st_i (y := nI (T.h + 1)) (nI_add _ _) ?_
    refine va_put (D := (dC, dI)) (ci := 0) (v := .int (nI (T.h + 1))) (ty := .int) (C := RT) (T := FT) (N := 8) hx hb hta iT tT tT_ok nT hown hK hP hD hS 0 rfl rfl 6 (by decide) (hta _ m_34) (fun _ h9 => h9) rfl (by decide +kernel) rfl rfl (Nat.le_of_ble_eq_true rfl) dT_bringTold_27 (fun H locs hP hD hS => ?_)
    have hP : va_P (dC, dI) vwCl (TW ad k (ts T.C T.I T.O T.G T.S T.w (T.h + 1) T.d)) H := hP
    have hD : va_D A (TW ad k (ts T.C T.I T.O T.G T.S T.w (T.h + 1) T.d)) := hD
    refine lv_aload_n hx hb dT_bringTold_30 rfl (lv_at hl 1 rfl) ?_
    refine va_get (D := (dC, dI)) (ci := 0) (v := .ref (ad 2)) (C := RT) (T := FT) (N := 8) hx hb hta iT hown hK hP 0 rfl rfl 1 (by decide) (hta _ m_27) (fun _ h9 => h9) rfl dT_bringTold_31 ?_
    refine lv_aload_n hx hb dT_bringTold_34 rfl (lv_at hl 1 rfl) ?_
    refine va_get (D := (dC, dI)) (ci := 0) (v := .int (nI (T.h + 1))) (C := RT) (T := FT) (N := 8) hx hb hta iT hown hK hP 0 rfl rfl 6 (by decide) (hta _ m_34) (fun _ h9 => h9) rfl dT_bringTold_35 ?_
    refine lv_iload_n hx hb dT_bringTold_38 rfl (lv_at hl 0 rfl) ?_
    refine na_iast hx hb hK hP hD hS 2 1 rfl rfl (i := (T.h + 1)) (x := nI (T.w + T.h)) (by omega) (by decide) dT_bringTold_39 (fun H locs hP hD hS => ?_)
    have hP : va_P (dC, dI) vwCl (TW ad k (ts T.C (upd T.I (T.h + 1) (nI (T.w + T.h))) T.O T.G T.S T.w (T.h + 1) T.d)) H := hP
    have hD : va_D A (TW ad k (ts T.C (upd T.I (T.h + 1) (nI (T.w + T.h))) T.O T.G T.S T.w (T.h + 1) T.d)) := hD
    refine lv_iconst (v := nI 0) hx hb dT_bringTold_40 (by decide) ?_
    refine lv_istore_n (lv' := [(3, .int (nI 0)), (2, .int (nI (T.w + T.h))), (0, .ref (ad 0)), (1, .int sg)]) hx hb dT_bringTold_41 rfl hl (by decide) rfl (fun ls hl => ?_)
    have loop42 : ∀ (n : Nat) (j : Nat) (C : Nat → Int64) (H : Heap) (locs : List Loc) (ls : Array Slot), (j + n = T.w + 1) → (btL T.G (T.h + 1) sg.toInt64 j n C = btL T.G (T.h + 1) sg.toInt64 0 (T.w + 1) T.C) → va_P (dC, dI) vwCl (TW ad k (ts C (upd T.I (T.h + 1) (nI (T.w + T.h))) T.O T.G T.S T.w (T.h + 1) T.d)) H → va_D A (TW ad k (ts C (upd T.I (T.h + 1) (nI (T.w + T.h))) T.O T.G T.S T.w (T.h + 1) T.d)) → va_S A s.heap H locs → lv_has ls 4 [(3, .int (nI j)), (2, .int (nI (T.w + T.h))), (0, .ref (ad 0)), (1, .int sg)] → W p l e (headSpec wT_bringTold ({ frames := 1, cells := 0, slots := 0, locals := 24 })).room s m ([.ref (ad 0), .int sg] : List Value).toArray below meth c H locs 0 0 (MQ below (wQ none (dC, dI) vwCl (TW ad k (btM T sg)) A) ([.ref (ad 0), .int sg] : List Value).toArray s 0 0 A) (F0 m 42 ls []) := by
      intro n
      induction n with
      | zero =>
        intro j C H locs ls hn hq hP hD hS hl
        refine lv_iload_n hx hb dT_bringTold_42 rfl (lv_at hl 0 rfl) ?_
        refine lv_aload_n hx hb dT_bringTold_43 rfl (lv_at hl 2 rfl) ?_
        refine va_get (D := (dC, dI)) (ci := 0) (v := .int (nI T.w)) (C := RT) (T := FT) (N := 8) hx hb hta iT hown hK hP 0 rfl rfl 5 (by decide) (hta _ m_32) (fun _ h9 => h9) rfl dT_bringTold_44 ?_
        refine ni_gt (tgt := 74) hx hb dT_bringTold_47 (by decide) (by omega) (by omega) (fun c_1 => ?_) (fun c_1 => ?_)
        · exact W.vret hx hb hr (fun t ht hW => ⟨rfl, by rw [ht]; exact (by rw [show btM T sg = (ts C (upd T.I (T.h + 1) (nI (T.w + T.h))) T.O T.G T.S T.w (T.h + 1) T.d) by (rw [btM, if_neg (Nat.not_le.mpr h1), ← hq]; rfl)]; exact hP), hS.F ht⟩) hS.2.2 dT_bringTold_74
        · exfalso; omega
      | succ n ih =>
        intro j C H locs ls hn hq hP hD hS hl
        refine lv_iload_n hx hb dT_bringTold_42 rfl (lv_at hl 0 rfl) ?_
        refine lv_aload_n hx hb dT_bringTold_43 rfl (lv_at hl 2 rfl) ?_
        refine va_get (D := (dC, dI)) (ci := 0) (v := .int (nI T.w)) (C := RT) (T := FT) (N := 8) hx hb hta iT hown hK hP 0 rfl rfl 5 (by decide) (hta _ m_32) (fun _ h9 => h9) rfl dT_bringTold_44 ?_
        refine ni_gt (tgt := 74) hx hb dT_bringTold_47 (by decide) (by omega) (by omega) (fun c_2 => ?_) (fun c_2 => ?_)
        · exfalso; omega
        · refine lv_aload_n hx hb dT_bringTold_50 rfl (lv_at hl 2 rfl) ?_
          refine lv_aload_n hx hb dT_bringTold_51 rfl (lv_at hl 2 rfl) ?_
          refine va_get (D := (dC, dI)) (ci := 0) (v := .int (nI (T.h + 1))) (C := RT) (T := FT) (N := 8) hx hb hta iT hown hK hP 0 rfl rfl 6 (by decide) (hta _ m_34) (fun _ h9 => h9) rfl dT_bringTold_52 ?_
          refine lv_iload_n hx hb dT_bringTold_55 rfl (lv_at hl 0 rfl) ?_
          refine lv_iload_n hx hb dT_bringTold_56 rfl (lv_at hl 3 rfl) ?_
          refine lv_i2l (v := sg.toInt64) hx hb dT_bringTold_57 rfl ?_
          refine lv_aload_n hx hb dT_bringTold_58 rfl (lv_at hl 2 rfl) ?_
          refine va_get (D := (dC, dI)) (ci := 0) (v := .ref (ad 4)) (C := RT) (T := FT) (N := 8) hx hb hta iT hown hK hP 0 rfl rfl 3 (by decide) (hta _ m_30) (fun _ h9 => h9) rfl dT_bringTold_59 ?_
          refine lv_iload_n hx hb dT_bringTold_62 rfl (lv_at hl 0 rfl) ?_
          refine na_lald hx hb hK hP 4 3 rfl rfl (i := j) (by omega) (by decide) dT_bringTold_63 ?_
          refine lv_lmul hx hb dT_bringTold_64 ?_
          refine wr_call (X := ([] : va_W)) (va_runV (As := [.int (nI (T.h + 1)), .int (nI j), .long (sg.toInt64 * (T.G j))]) (rest := []) ⟨hx, hb, hml, hown, hta⟩ (c_T_setCell l dC dI ad k (ts C (upd T.I (T.h + 1) (nI (T.w + T.h))) T.O T.G T.S T.w (T.h + 1) T.d) H.size (T.h + 1) j (sg.toInt64 * (T.G j)) (by first | omega | exact hw | exact hh)) (cwV 3 hta (gV m_240 m_242 mp_8 m_2 m_243) rfl rfl rfl (by decide +kernel) ⟨Nat.le_of_ble_eq_true rfl, Nat.le_of_ble_eq_true rfl⟩) (wr_V xT_ok trivial hK hP hD (ci := 0) (q0 := 0) rfl rfl) rfl rfl hl.1 rfl (lv_room (Nat.le_of_ble_eq_true rfl)) dT_bringTold_65 ⟨Nat.zero_le _, Nat.zero_le _⟩) hP hD hS hA rfl (fun H locs hP hD hS => ?_)
          have hP : va_P (dC, dI) vwCl (TW ad k (ts (vp_updL C ((T.h + 1) * 13 + j) (sg.toInt64 * (T.G j))) (upd T.I (T.h + 1) (nI (T.w + T.h))) T.O T.G T.S T.w (T.h + 1) T.d)) H := hP
          have hD : va_D A (TW ad k (ts (vp_updL C ((T.h + 1) * 13 + j) (sg.toInt64 * (T.G j))) (upd T.I (T.h + 1) (nI (T.w + T.h))) T.O T.G T.S T.w (T.h + 1) T.d)) := hD
          refine W.eq (g2 := F0 m 68 ls []) rfl ?_
          refine lv_iinc (v := nI (j + 1)) (lv' := [(3, .int (nI (j + 1))), (2, .int (nI (T.w + T.h))), (0, .ref (ad 0)), (1, .int sg)]) hx hb dT_bringTold_68 hl (k := 0) rfl (nI_add j 1) (by decide) rfl (fun ls hl => ?_)
          refine lv_goto (tgt := 42) hx hb dT_bringTold_71 (by decide) ?_
          exact ih (j + 1) (vp_updL C ((T.h + 1) * 13 + j) (sg.toInt64 * (T.G j))) H locs ls (by omega) (by rw [← hq]; rfl) hP hD hS (lv_sub hl [0, 1, 2, 3] rfl)
    exact loop42 (T.w + 1) 0 T.C H locs ls (by omega) rfl hP hD hS (lv_sub hl [0, 1, 2, 3] rfl)
  · exact W.vret hx hb hr (fun t ht hW => ⟨rfl, by rw [ht]; exact (by simpa only [btM, if_pos h1] using hP), hS.F ht⟩) hS.2.2 dT_bringTold_9

set_option maxHeartbeats 4000000 in
set_option maxRecDepth 100000 in
theorem c_T_changeEntered (l : Launch) (dC : Nat → ClassId) (dI : Nat → Nat → Nat) (ad : Nat → Nat) (k : Nat → ClassId) (T : TS) (sz : Nat) (le en : Nat) (hw : T.w ≤ 12) (hle : le < 25) (hen : en < 13) : Met l yT_changeEntered wT_changeEntered ({ frames := 1, cells := 0, slots := 0, locals := 24 }) (wPc [.ref (ad 0), .int (nI le), .int (nI en)] sz (dC, dI) vwCl (TW ad k T) (TK k) xT) (wQ none (dC, dI) vwCl (TW ad k (ts (ceL T.d le en 0 (T.w + 1) T.C) T.I T.O T.G T.S T.w T.h T.d)) (va_A (TW ad k T) sz)) 0 0 (va_A (TW ad k T) sz) := by
  refine Met.ofW (cc := bT_changeEntered) (maxL := 4) (ret := none) (by decide) rfl ?_
  intro p e s m args below meth c s₁ B hml hv
  obtain ⟨rfl, hsz, hP, hK, hD0, hX⟩ := hv
  have hx := B.exec
  have hb := B.bytes
  have hr := B.returns
  have hts := atoms_spec (ws := wT_changeEntered) B.pre
  have hta : ∀ w ∈ AW, w.before _ s = true := fun w h => hts w (List.mem_cons_of_mem _ h)
  have hown : s.vm.findClass RT = some m.cls := findClass_of_methodNamed B.named
  have hlocks := B.notSynchronized
  subst hsz
  have hD := hD0.self (sz := s.heap.size)
  generalize hAe : va_A (TW ad k T) s.heap.size = A at hD ⊢
  have hA : ∀ q : Nat, s.heap.size ≤ q → A q := fun q h => by rw [← hAe]; exact Or.inr h
  have hS : va_S A s.heap s.heap [] := va_S.rf
  have hl := lv_entry ([.ref (ad 0), .int (nI le), .int (nI en)]) (n := 4) (Nat.le_of_ble_eq_true rfl)
  rw [lg_entry_eq]
  generalize (lg_sl ([.ref (ad 0), .int (nI le), .int (nI en)]) ++ List.replicate (4 - (lg_sl ([.ref (ad 0), .int (nI le), .int (nI en)])).length) Slot.unset).toArray = ls at hl ⊢
  have hl : lv_has ls 4 [(0, .ref (ad 0)), (1, .int (nI le)), (2, .int (nI en))] := hl
  refine lv_iconst (v := nI 0) hx hb dT_changeEntered_0 (by decide) ?_
  refine lv_istore_n (lv' := [(3, .int (nI 0)), (0, .ref (ad 0)), (1, .int (nI le)), (2, .int (nI en))]) hx hb dT_changeEntered_1 rfl hl (by decide) rfl (fun ls hl => ?_)
  have loop2 : ∀ (n : Nat) (j : Nat) (C : Nat → Int64) (H : Heap) (locs : List Loc) (ls : Array Slot), (j + n = T.w + 1) → (ceL T.d le en j n C = ceL T.d le en 0 (T.w + 1) T.C) → va_P (dC, dI) vwCl (TW ad k (ts C T.I T.O T.G T.S T.w T.h T.d)) H → va_D A (TW ad k (ts C T.I T.O T.G T.S T.w T.h T.d)) → va_S A s.heap H locs → lv_has ls 4 [(3, .int (nI j)), (0, .ref (ad 0)), (1, .int (nI le)), (2, .int (nI en))] → W p l e (headSpec wT_changeEntered ({ frames := 1, cells := 0, slots := 0, locals := 24 })).room s m ([.ref (ad 0), .int (nI le), .int (nI en)] : List Value).toArray below meth c H locs 0 0 (MQ below (wQ none (dC, dI) vwCl (TW ad k (ts (ceL T.d le en 0 (T.w + 1) T.C) T.I T.O T.G T.S T.w T.h T.d)) A) ([.ref (ad 0), .int (nI le), .int (nI en)] : List Value).toArray s 0 0 A) (F0 m 2 ls []) := by
    intro n
    induction n with
    | zero =>
      intro j C H locs ls hn hq hP hD hS hl
      refine lv_iload_n hx hb dT_changeEntered_2 rfl (lv_at hl 0 rfl) ?_
      refine lv_aload_n hx hb dT_changeEntered_3 rfl (lv_at hl 1 rfl) ?_
      refine va_get (D := (dC, dI)) (ci := 0) (v := .int (nI T.w)) (C := RT) (T := FT) (N := 8) hx hb hta iT hown hK hP 0 rfl rfl 5 (by decide) (hta _ m_32) (fun _ h9 => h9) rfl dT_changeEntered_4 ?_
      refine ni_gt (tgt := 41) hx hb dT_changeEntered_7 (by decide) (by omega) (by omega) (fun c_1 => ?_) (fun c_1 => ?_)
      · exact W.vret hx hb hr (fun t ht hW => ⟨rfl, by rw [ht]; exact (by rw [← hq]; exact hP), hS.F ht⟩) hS.2.2 dT_changeEntered_41
      · exfalso; omega
    | succ n ih =>
      intro j C H locs ls hn hq hP hD hS hl
      refine lv_iload_n hx hb dT_changeEntered_2 rfl (lv_at hl 0 rfl) ?_
      refine lv_aload_n hx hb dT_changeEntered_3 rfl (lv_at hl 1 rfl) ?_
      refine va_get (D := (dC, dI)) (ci := 0) (v := .int (nI T.w)) (C := RT) (T := FT) (N := 8) hx hb hta iT hown hK hP 0 rfl rfl 5 (by decide) (hta _ m_32) (fun _ h9 => h9) rfl dT_changeEntered_4 ?_
      refine ni_gt (tgt := 41) hx hb dT_changeEntered_7 (by decide) (by omega) (by omega) (fun c_2 => ?_) (fun c_2 => ?_)
      · exfalso; omega
      · refine lv_aload_n hx hb dT_changeEntered_10 rfl (lv_at hl 1 rfl) ?_
        refine lv_iload_n hx hb dT_changeEntered_11 rfl (lv_at hl 2 rfl) ?_
        refine lv_iload_n hx hb dT_changeEntered_12 rfl (lv_at hl 0 rfl) ?_
        refine lv_iload_n hx hb dT_changeEntered_13 rfl (lv_at hl 0 rfl) ?_
        refine lv_iload_n hx hb dT_changeEntered_14 rfl (lv_at hl 3 rfl) ?_
        refine ni_ne (tgt := 25) hx hb dT_changeEntered_15 (by decide) (by omega) (by omega) (fun h1 => ?_) (fun h1 => ?_)
        · refine lv_aload_n hx hb dT_changeEntered_25 rfl (lv_at hl 1 rfl) ?_
          refine lv_iload_n hx hb dT_changeEntered_26 rfl (lv_at hl 2 rfl) ?_
          refine lv_iload_n hx hb dT_changeEntered_27 rfl (lv_at hl 0 rfl) ?_
          refine rd_call (va_runV (As := [.int (nI le), .int (nI j)]) (rest := [.int (nI j), .int (nI le), .ref (ad 0)]) ⟨hx, hb, hml, hown, hta⟩ (c_T_cell l dC dI ad k (ts C T.I T.O T.G T.S T.w T.h T.d) le j (by first | omega | exact hw | exact hh)) (cwV 2 hta (gV m_123 m_125 mp_4 m_2 m_126) rfl rfl rfl (by decide +kernel) ⟨Nat.le_of_ble_eq_true rfl, Nat.le_of_ble_eq_true rfl⟩) (rd_V xT_ok trivial hK hP (ci := 0) (q0 := 0) rfl rfl) rfl rfl hl.1 rfl (lv_room (Nat.le_of_ble_eq_true rfl)) dT_changeEntered_28 ⟨Nat.zero_le _, Nat.zero_le _⟩) ?_
          refine W.eq (g2 := F0 m 31 ls [.long (C (le * 13 + j)), .int (nI j), .int (nI le), .ref (ad 0)]) rfl ?_
          refine lv_lneg hx hb dT_changeEntered_31 ?_
          refine wr_call (X := ([] : va_W)) (va_runV (As := [.int (nI le), .int (nI j), .long (-(C (le * 13 + j)))]) (rest := []) ⟨hx, hb, hml, hown, hta⟩ (c_T_setCell l dC dI ad k (ts C T.I T.O T.G T.S T.w T.h T.d) H.size le j (-(C (le * 13 + j))) (by first | omega | exact hw | exact hh)) (cwV 3 hta (gV m_240 m_242 mp_8 m_2 m_243) rfl rfl rfl (by decide +kernel) ⟨Nat.le_of_ble_eq_true rfl, Nat.le_of_ble_eq_true rfl⟩) (wr_V xT_ok trivial hK hP hD (ci := 0) (q0 := 0) rfl rfl) rfl rfl hl.1 rfl (lv_room (Nat.le_of_ble_eq_true rfl)) dT_changeEntered_32 ⟨Nat.zero_le _, Nat.zero_le _⟩) hP hD hS hA rfl (fun H locs hP hD hS => ?_)
          have hP : va_P (dC, dI) vwCl (TW ad k (ts (vp_updL C (le * 13 + j) (-(C (le * 13 + j)))) T.I T.O T.G T.S T.w T.h T.d)) H := hP
          have hD : va_D A (TW ad k (ts (vp_updL C (le * 13 + j) (-(C (le * 13 + j)))) T.I T.O T.G T.S T.w T.h T.d)) := hD
          refine W.eq (g2 := F0 m 35 ls []) rfl ?_
          refine lv_iinc (v := nI (j + 1)) (lv' := [(3, .int (nI (j + 1))), (0, .ref (ad 0)), (1, .int (nI le)), (2, .int (nI en))]) hx hb dT_changeEntered_35 hl (k := 0) rfl (nI_add j 1) (by decide) rfl (fun ls hl => ?_)
          refine lv_goto (tgt := 2) hx hb dT_changeEntered_38 (by decide) ?_
          exact ih (j + 1) (vp_updL C (le * 13 + j) (-(C (le * 13 + j)))) H locs ls (by omega) (by rw [← hq]; simp [ceL, h1]) hP hD hS (lv_sub hl [0, 1, 2, 3] rfl)
        · refine lv_aload_n hx hb dT_changeEntered_18 rfl (lv_at hl 1 rfl) ?_
          refine va_get (D := (dC, dI)) (ci := 0) (v := .long T.d) (C := RT) (T := FT) (N := 8) hx hb hta iT hown hK hP 0 rfl rfl 7 (by decide) (hta _ m_36) (fun _ h9 => h9) rfl dT_changeEntered_19 ?_
          refine lv_goto (tgt := 32) hx hb dT_changeEntered_22 (by decide) ?_
          refine wr_call (X := ([] : va_W)) (va_runV (As := [.int (nI le), .int (nI j), .long T.d]) (rest := []) ⟨hx, hb, hml, hown, hta⟩ (c_T_setCell l dC dI ad k (ts C T.I T.O T.G T.S T.w T.h T.d) H.size le j T.d (by first | omega | exact hw | exact hh)) (cwV 3 hta (gV m_240 m_242 mp_8 m_2 m_243) rfl rfl rfl (by decide +kernel) ⟨Nat.le_of_ble_eq_true rfl, Nat.le_of_ble_eq_true rfl⟩) (wr_V xT_ok trivial hK hP hD (ci := 0) (q0 := 0) rfl rfl) rfl rfl hl.1 rfl (lv_room (Nat.le_of_ble_eq_true rfl)) dT_changeEntered_32 ⟨Nat.zero_le _, Nat.zero_le _⟩) hP hD hS hA rfl (fun H locs hP hD hS => ?_)
          have hP : va_P (dC, dI) vwCl (TW ad k (ts (vp_updL C (le * 13 + j) T.d) T.I T.O T.G T.S T.w T.h T.d)) H := hP
          have hD : va_D A (TW ad k (ts (vp_updL C (le * 13 + j) T.d) T.I T.O T.G T.S T.w T.h T.d)) := hD
          refine W.eq (g2 := F0 m 35 ls []) rfl ?_
          refine lv_iinc (v := nI (j + 1)) (lv' := [(3, .int (nI (j + 1))), (0, .ref (ad 0)), (1, .int (nI le)), (2, .int (nI en))]) hx hb dT_changeEntered_35 hl (k := 0) rfl (nI_add j 1) (by decide) rfl (fun ls hl => ?_)
          refine lv_goto (tgt := 2) hx hb dT_changeEntered_38 (by decide) ?_
          exact ih (j + 1) (vp_updL C (le * 13 + j) T.d) H locs ls (by omega) (by rw [← hq]; simp [ceL, h1]) hP hD hS (lv_sub hl [0, 1, 2, 3] rfl)
  exact loop2 (T.w + 1) 0 T.C s.heap [] ls (by omega) rfl hP hD hS (lv_sub hl [0, 1, 2, 3] rfl)

set_option maxHeartbeats 4000000 in
set_option maxRecDepth 100000 in
theorem c_T_changeOther (l : Launch) (dC : Nat → ClassId) (dI : Nat → Nat → Nat) (ad : Nat → Nat) (k : Nat → ClassId) (T : TS) (sz : Nat) (i le en : Nat) (hw : T.w ≤ 12) (hi : i < 25) (hle : le < 25) (hen : en < 13) : Met l yT_changeOther wT_changeOther ({ frames := 1, cells := 0, slots := 0, locals := 36 }) (wPc [.ref (ad 0), .int (nI i), .int (nI le), .int (nI en)] sz (dC, dI) vwCl (TW ad k T) (TK k) xT) (wQ none (dC, dI) vwCl (TW ad k (ts (coM T.d T.w i le en T.C) T.I T.O T.G T.S T.w T.h T.d)) (va_A (TW ad k T) sz)) 0 0 (va_A (TW ad k T) sz) := by
  refine Met.ofW (cc := bT_changeOther) (maxL := 9) (ret := none) (by decide) rfl ?_
  intro p e s m args below meth c s₁ B hml hv
  obtain ⟨rfl, hsz, hP, hK, hD0, hX⟩ := hv
  have hx := B.exec
  have hb := B.bytes
  have hr := B.returns
  have hts := atoms_spec (ws := wT_changeOther) B.pre
  have hta : ∀ w ∈ AW, w.before _ s = true := fun w h => hts w (List.mem_cons_of_mem _ h)
  have hown : s.vm.findClass RT = some m.cls := findClass_of_methodNamed B.named
  have hlocks := B.notSynchronized
  subst hsz
  have hD := hD0.self (sz := s.heap.size)
  generalize hAe : va_A (TW ad k T) s.heap.size = A at hD ⊢
  have hA : ∀ q : Nat, s.heap.size ≤ q → A q := fun q h => by rw [← hAe]; exact Or.inr h
  have hS : va_S A s.heap s.heap [] := va_S.rf
  have hl := lv_entry ([.ref (ad 0), .int (nI i), .int (nI le), .int (nI en)]) (n := 9) (Nat.le_of_ble_eq_true rfl)
  rw [lg_entry_eq]
  generalize (lg_sl ([.ref (ad 0), .int (nI i), .int (nI le), .int (nI en)]) ++ List.replicate (9 - (lg_sl ([.ref (ad 0), .int (nI i), .int (nI le), .int (nI en)])).length) Slot.unset).toArray = ls at hl ⊢
  have hl : lv_has ls 9 [(0, .ref (ad 0)), (1, .int (nI i)), (2, .int (nI le)), (3, .int (nI en))] := hl
  refine lv_aload_n hx hb dT_changeOther_0 rfl (lv_at hl 0 rfl) ?_
  refine lv_iload_n hx hb dT_changeOther_1 rfl (lv_at hl 2 rfl) ?_
  refine lv_iload_n hx hb dT_changeOther_2 rfl (lv_at hl 3 rfl) ?_
  refine rd_call (va_runV (As := [.int (nI le), .int (nI en)]) (rest := []) ⟨hx, hb, hml, hown, hta⟩ (c_T_cell l dC dI ad k T le en (by first | omega | exact hw | exact hh)) (cwV 2 hta (gV m_123 m_125 mp_4 m_2 m_126) rfl rfl rfl (by decide +kernel) ⟨Nat.le_of_ble_eq_true rfl, Nat.le_of_ble_eq_true rfl⟩) (rd_V xT_ok trivial hK hP (ci := 0) (q0 := 0) rfl rfl) rfl rfl hl.1 rfl (lv_room (Nat.le_of_ble_eq_true rfl)) dT_changeOther_3 ⟨Nat.zero_le _, Nat.zero_le _⟩) ?_
  refine W.eq (g2 := F0 m 6 ls [.long (T.C (le * 13 + en))]) rfl ?_
  refine lv_lstore (lv' := [(4, .long (T.C (le * 13 + en))), (0, .ref (ad 0)), (1, .int (nI i)), (2, .int (nI le)), (3, .int (nI en))]) hx hb dT_changeOther_6 hl (by decide) rfl (fun ls hl => ?_)
  refine lv_aload_n hx hb dT_changeOther_8 rfl (lv_at hl 1 rfl) ?_
  refine lv_iload_n hx hb dT_changeOther_9 rfl (lv_at hl 2 rfl) ?_
  refine lv_iload_n hx hb dT_changeOther_10 rfl (lv_at hl 4 rfl) ?_
  refine rd_call (va_runV (As := [.int (nI i), .int (nI en)]) (rest := []) ⟨hx, hb, hml, hown, hta⟩ (c_T_cell l dC dI ad k T i en (by first | omega | exact hw | exact hh)) (cwV 2 hta (gV m_123 m_125 mp_4 m_2 m_126) rfl rfl rfl (by decide +kernel) ⟨Nat.le_of_ble_eq_true rfl, Nat.le_of_ble_eq_true rfl⟩) (rd_V xT_ok trivial hK hP (ci := 0) (q0 := 0) rfl rfl) rfl rfl hl.1 rfl (lv_room (Nat.le_of_ble_eq_true rfl)) dT_changeOther_11 ⟨Nat.zero_le _, Nat.zero_le _⟩) ?_
  refine W.eq (g2 := F0 m 14 ls [.long (T.C (i * 13 + en))]) rfl ?_
  refine lv_lstore (lv' := [(6, .long (T.C (i * 13 + en))), (4, .long (T.C (le * 13 + en))), (0, .ref (ad 0)), (1, .int (nI i)), (2, .int (nI le)), (3, .int (nI en))]) hx hb dT_changeOther_14 hl (by decide) rfl (fun ls hl => ?_)
  refine lv_iconst (v := nI 0) hx hb dT_changeOther_16 (by decide) ?_
  refine lv_istore (lv' := [(8, .int (nI 0)), (6, .long (T.C (i * 13 + en))), (4, .long (T.C (le * 13 + en))), (0, .ref (ad 0)), (1, .int (nI i)), (2, .int (nI le)), (3, .int (nI en))]) hx hb dT_changeOther_17 hl (by decide) rfl (fun ls hl => ?_)
  have loop19 : ∀ (n : Nat) (j : Nat) (C : Nat → Int64) (H : Heap) (locs : List Loc) (ls : Array Slot), (j + n = T.w + 1) → (coL T.d i le en (T.C (le * 13 + en)) (T.C (i * 13 + en)) j n C = coM T.d T.w i le en T.C) → va_P (dC, dI) vwCl (TW ad k (ts C T.I T.O T.G T.S T.w T.h T.d)) H → va_D A (TW ad k (ts C T.I T.O T.G T.S T.w T.h T.d)) → va_S A s.heap H locs → lv_has ls 9 [(8, .int (nI j)), (6, .long (T.C (i * 13 + en))), (4, .long (T.C (le * 13 + en))), (0, .ref (ad 0)), (1, .int (nI i)), (2, .int (nI le)), (3, .int (nI en))] → W p l e (headSpec wT_changeOther ({ frames := 1, cells := 0, slots := 0, locals := 36 })).room s m ([.ref (ad 0), .int (nI i), .int (nI le), .int (nI en)] : List Value).toArray below meth c H locs 0 0 (MQ below (wQ none (dC, dI) vwCl (TW ad k (ts (coM T.d T.w i le en T.C) T.I T.O T.G T.S T.w T.h T.d)) A) ([.ref (ad 0), .int (nI i), .int (nI le), .int (nI en)] : List Value).toArray s 0 0 A) (F0 m 19 ls []) := by
    intro n
    induction n with
    | zero =>
      intro j C H locs ls hn hq hP hD hS hl
      refine lv_iload hx hb dT_changeOther_19 (lv_at hl 0 rfl) ?_
      refine lv_aload_n hx hb dT_changeOther_21 rfl (lv_at hl 3 rfl) ?_
      refine va_get (D := (dC, dI)) (ci := 0) (v := .int (nI T.w)) (C := RT) (T := FT) (N := 8) hx hb hta iT hown hK hP 0 rfl rfl 5 (by decide) (hta _ m_32) (fun _ h9 => h9) rfl dT_changeOther_22 ?_
      refine ni_gt (tgt := 69) hx hb dT_changeOther_25 (by decide) (by omega) (by omega) (fun c_1 => ?_) (fun c_1 => ?_)
      · exact W.vret hx hb hr (fun t ht hW => ⟨rfl, by rw [ht]; exact (by rw [← hq]; exact hP), hS.F ht⟩) hS.2.2 dT_changeOther_69
      · exfalso; omega
    | succ n ih =>
      intro j C H locs ls hn hq hP hD hS hl
      refine lv_iload hx hb dT_changeOther_19 (lv_at hl 0 rfl) ?_
      refine lv_aload_n hx hb dT_changeOther_21 rfl (lv_at hl 3 rfl) ?_
      refine va_get (D := (dC, dI)) (ci := 0) (v := .int (nI T.w)) (C := RT) (T := FT) (N := 8) hx hb hta iT hown hK hP 0 rfl rfl 5 (by decide) (hta _ m_32) (fun _ h9 => h9) rfl dT_changeOther_22 ?_
      refine ni_gt (tgt := 69) hx hb dT_changeOther_25 (by decide) (by omega) (by omega) (fun c_2 => ?_) (fun c_2 => ?_)
      · exfalso; omega
      · refine lv_iload hx hb dT_changeOther_28 (lv_at hl 0 rfl) ?_
        refine lv_iload_n hx hb dT_changeOther_30 rfl (lv_at hl 6 rfl) ?_
        refine ni_eq (tgt := 63) hx hb dT_changeOther_31 (by decide) (by omega) (by omega) (fun h1 => ?_) (fun h1 => ?_)
        · refine lv_iinc (v := nI (j + 1)) (lv' := [(8, .int (nI (j + 1))), (6, .long (T.C (i * 13 + en))), (4, .long (T.C (le * 13 + en))), (0, .ref (ad 0)), (1, .int (nI i)), (2, .int (nI le)), (3, .int (nI en))]) hx hb dT_changeOther_63 hl (k := 0) rfl (nI_add j 1) (by decide) rfl (fun ls hl => ?_)
          refine lv_goto (tgt := 19) hx hb dT_changeOther_66 (by decide) ?_
          exact ih (j + 1) (C) H locs ls (by omega) (by rw [← hq]; simp [coL, h1]) hP hD hS (lv_sub hl [0, 1, 2, 3, 4, 5, 6] rfl)
        · refine lv_aload_n hx hb dT_changeOther_34 rfl (lv_at hl 3 rfl) ?_
          refine lv_iload_n hx hb dT_changeOther_35 rfl (lv_at hl 4 rfl) ?_
          refine lv_iload hx hb dT_changeOther_36 (lv_at hl 0 rfl) ?_
          refine lv_aload_n hx hb dT_changeOther_38 rfl (lv_at hl 3 rfl) ?_
          refine lv_aload_n hx hb dT_changeOther_39 rfl (lv_at hl 3 rfl) ?_
          refine lv_iload_n hx hb dT_changeOther_40 rfl (lv_at hl 4 rfl) ?_
          refine lv_iload hx hb dT_changeOther_41 (lv_at hl 0 rfl) ?_
          refine rd_call (va_runV (As := [.int (nI i), .int (nI j)]) (rest := [.ref (ad 0), .int (nI j), .int (nI i), .ref (ad 0)]) ⟨hx, hb, hml, hown, hta⟩ (c_T_cell l dC dI ad k (ts C T.I T.O T.G T.S T.w T.h T.d) i j (by first | omega | exact hw | exact hh)) (cwV 2 hta (gV m_123 m_125 mp_4 m_2 m_126) rfl rfl rfl (by decide +kernel) ⟨Nat.le_of_ble_eq_true rfl, Nat.le_of_ble_eq_true rfl⟩) (rd_V xT_ok trivial hK hP (ci := 0) (q0 := 0) rfl rfl) rfl rfl hl.1 rfl (lv_room (Nat.le_of_ble_eq_true rfl)) dT_changeOther_43 ⟨Nat.zero_le _, Nat.zero_le _⟩) ?_
          refine W.eq (g2 := F0 m 46 ls [.long (C (i * 13 + j)), .ref (ad 0), .int (nI j), .int (nI i), .ref (ad 0)]) rfl ?_
          refine lv_lload hx hb dT_changeOther_46 (lv_at hl 2 rfl) ?_
          refine lv_lload hx hb dT_changeOther_48 (lv_at hl 1 rfl) ?_
          refine lv_aload_n hx hb dT_changeOther_50 rfl (lv_at hl 3 rfl) ?_
          refine lv_iload_n hx hb dT_changeOther_51 rfl (lv_at hl 5 rfl) ?_
          refine lv_iload hx hb dT_changeOther_52 (lv_at hl 0 rfl) ?_
          refine rd_call (wd_runV (As := [.int (nI le), .int (nI j)]) (rest := [.long (T.C (i * 13 + en)), .long (T.C (le * 13 + en)), .long (C (i * 13 + j)), .ref (ad 0), .int (nI j), .int (nI i), .ref (ad 0)]) ⟨hx, hb, hml, hown, hta⟩ (c_T_cell l dC dI ad k (ts C T.I T.O T.G T.S T.w T.h T.d) le j (by first | omega | exact hw | exact hh)) (cwV 2 hta (gV m_123 m_125 mp_4 m_2 m_126) rfl rfl rfl (by decide +kernel) ⟨Nat.le_of_ble_eq_true rfl, Nat.le_of_ble_eq_true rfl⟩) (Nat.le_of_ble_eq_true rfl) (rd_V xT_ok trivial hK hP (ci := 0) (q0 := 0) rfl rfl) rfl rfl hl.1 rfl (wd_room (Nat.le_of_ble_eq_true rfl)) dT_changeOther_54 ⟨Nat.zero_le _, Nat.zero_le _⟩) ?_
          refine W.eq (g2 := F0 m 57 ls [.long (C (le * 13 + j)), .long (T.C (i * 13 + en)), .long (T.C (le * 13 + en)), .long (C (i * 13 + j)), .ref (ad 0), .int (nI j), .int (nI i), .ref (ad 0)]) rfl ?_
          refine rd_call (va_runV (As := [.long (C (i * 13 + j)), .long (T.C (le * 13 + en)), .long (T.C (i * 13 + en)), .long (C (le * 13 + j))]) (rest := [.int (nI j), .int (nI i), .ref (ad 0)]) ⟨hx, hb, hml, hown, hta⟩ (c_T_afterStep l dC dI ad k (ts C T.I T.O T.G T.S T.w T.h T.d) (C (i * 13 + j)) (T.C (le * 13 + en)) (T.C (i * 13 + en)) (C (le * 13 + j))) (cwV 4 hta (gV m_414 m_416 mp_33 m_2 m_417) rfl rfl rfl (by decide +kernel) ⟨Nat.le_of_ble_eq_true rfl, Nat.le_of_ble_eq_true rfl⟩) (rd_V xT_ok trivial hK hP (ci := 0) (q0 := 0) rfl rfl) rfl rfl hl.1 rfl (lv_room (Nat.le_of_ble_eq_true rfl)) dT_changeOther_57 ⟨Nat.zero_le _, Nat.zero_le _⟩) ?_
          refine W.eq (g2 := F0 m 60 ls [.long (afM T.d (C (i * 13 + j)) (T.C (le * 13 + en)) (T.C (i * 13 + en)) (C (le * 13 + j))), .int (nI j), .int (nI i), .ref (ad 0)]) rfl ?_
          refine wr_call (X := ([] : va_W)) (va_runV (As := [.int (nI i), .int (nI j), .long (afM T.d (C (i * 13 + j)) (T.C (le * 13 + en)) (T.C (i * 13 + en)) (C (le * 13 + j)))]) (rest := []) ⟨hx, hb, hml, hown, hta⟩ (c_T_setCell l dC dI ad k (ts C T.I T.O T.G T.S T.w T.h T.d) H.size i j (afM T.d (C (i * 13 + j)) (T.C (le * 13 + en)) (T.C (i * 13 + en)) (C (le * 13 + j))) (by first | omega | exact hw | exact hh)) (cwV 3 hta (gV m_240 m_242 mp_8 m_2 m_243) rfl rfl rfl (by decide +kernel) ⟨Nat.le_of_ble_eq_true rfl, Nat.le_of_ble_eq_true rfl⟩) (wr_V xT_ok trivial hK hP hD (ci := 0) (q0 := 0) rfl rfl) rfl rfl hl.1 rfl (lv_room (Nat.le_of_ble_eq_true rfl)) dT_changeOther_60 ⟨Nat.zero_le _, Nat.zero_le _⟩) hP hD hS hA rfl (fun H locs hP hD hS => ?_)
          have hP : va_P (dC, dI) vwCl (TW ad k (ts (vp_updL C (i * 13 + j) (afM T.d (C (i * 13 + j)) (T.C (le * 13 + en)) (T.C (i * 13 + en)) (C (le * 13 + j)))) T.I T.O T.G T.S T.w T.h T.d)) H := hP
          have hD : va_D A (TW ad k (ts (vp_updL C (i * 13 + j) (afM T.d (C (i * 13 + j)) (T.C (le * 13 + en)) (T.C (i * 13 + en)) (C (le * 13 + j)))) T.I T.O T.G T.S T.w T.h T.d)) := hD
          refine W.eq (g2 := F0 m 63 ls []) rfl ?_
          refine lv_iinc (v := nI (j + 1)) (lv' := [(8, .int (nI (j + 1))), (6, .long (T.C (i * 13 + en))), (4, .long (T.C (le * 13 + en))), (0, .ref (ad 0)), (1, .int (nI i)), (2, .int (nI le)), (3, .int (nI en))]) hx hb dT_changeOther_63 hl (k := 0) rfl (nI_add j 1) (by decide) rfl (fun ls hl => ?_)
          refine lv_goto (tgt := 19) hx hb dT_changeOther_66 (by decide) ?_
          exact ih (j + 1) (vp_updL C (i * 13 + j) (afM T.d (C (i * 13 + j)) (T.C (le * 13 + en)) (T.C (i * 13 + en)) (C (le * 13 + j)))) H locs ls (by omega) (by rw [← hq]; simp [coL, h1]) hP hD hS (lv_sub hl [0, 1, 2, 3, 4, 5, 6] rfl)
  exact loop19 (T.w + 1) 0 T.C s.heap [] ls (by omega) rfl hP hD hS (lv_sub hl [0, 1, 2, 3, 4, 5, 6] rfl)

set_option maxHeartbeats 4000000 in
set_option maxRecDepth 100000 in
theorem c_T_change (l : Launch) (dC : Nat → ClassId) (dI : Nat → Nat → Nat) (ad : Nat → Nat) (k : Nat → ClassId) (T : TS) (sz : Nat) (le en : Nat) (hw : T.w ≤ 12) (hh : T.h ≤ 24) (hle : le < 25) (hen : en < 13) : Met l yT_change wT_change ({ frames := 2, cells := 0, slots := 0, locals := 64 }) (wPc [.ref (ad 0), .int (nI le), .int (nI en)] sz (dC, dI) vwCl (TW ad k T) (TK k) xT) (wQ none (dC, dI) vwCl (TW ad k (chM T le en)) (va_A (TW ad k T) sz)) 0 0 (va_A (TW ad k T) sz) := by
  refine Met.ofW (cc := bT_change) (maxL := 6) (ret := none) (by decide) rfl ?_
  intro p e s m args below meth c s₁ B hml hv
  obtain ⟨rfl, hsz, hP, hK, hD0, hX⟩ := hv
  have hx := B.exec
  have hb := B.bytes
  have hr := B.returns
  have hts := atoms_spec (ws := wT_change) B.pre
  have hta : ∀ w ∈ AW, w.before _ s = true := fun w h => hts w (List.mem_cons_of_mem _ h)
  have hown : s.vm.findClass RT = some m.cls := findClass_of_methodNamed B.named
  have hlocks := B.notSynchronized
  subst hsz
  have hD := hD0.self (sz := s.heap.size)
  generalize hAe : va_A (TW ad k T) s.heap.size = A at hD ⊢
  have hA : ∀ q : Nat, s.heap.size ≤ q → A q := fun q h => by rw [← hAe]; exact Or.inr h
  have hS : va_S A s.heap s.heap [] := va_S.rf
  have hl := lv_entry ([.ref (ad 0), .int (nI le), .int (nI en)]) (n := 6) (Nat.le_of_ble_eq_true rfl)
  rw [lg_entry_eq]
  generalize (lg_sl ([.ref (ad 0), .int (nI le), .int (nI en)]) ++ List.replicate (6 - (lg_sl ([.ref (ad 0), .int (nI le), .int (nI en)])).length) Slot.unset).toArray = ls at hl ⊢
  have hl : lv_has ls 6 [(0, .ref (ad 0)), (1, .int (nI le)), (2, .int (nI en))] := hl
  refine lv_aload_n hx hb dT_change_0 rfl (lv_at hl 0 rfl) ?_
  refine lv_iload_n hx hb dT_change_1 rfl (lv_at hl 1 rfl) ?_
  refine lv_iload_n hx hb dT_change_2 rfl (lv_at hl 2 rfl) ?_
  refine rd_call (va_runV (As := [.int (nI le), .int (nI en)]) (rest := []) ⟨hx, hb, hml, hown, hta⟩ (c_T_cell l dC dI ad k T le en (by first | omega | exact hw | exact hh)) (cwV 2 hta (gV m_123 m_125 mp_4 m_2 m_126) rfl rfl rfl (by decide +kernel) ⟨Nat.le_of_ble_eq_true rfl, Nat.le_of_ble_eq_true rfl⟩) (rd_V xT_ok trivial hK hP (ci := 0) (q0 := 0) rfl rfl) rfl rfl hl.1 rfl (lv_room (Nat.le_of_ble_eq_true rfl)) dT_change_3 ⟨Nat.zero_le _, Nat.zero_le _⟩) ?_
  refine W.eq (g2 := F0 m 6 ls [.long (T.C (le * 13 + en))]) rfl ?_
  refine lv_lstore_n (lv' := [(3, .long (T.C (le * 13 + en))), (0, .ref (ad 0)), (1, .int (nI le)), (2, .int (nI en))]) hx hb dT_change_6 rfl hl (by decide) rfl (fun ls hl => ?_)
  refine lv_iconst (v := nI 0) hx hb dT_change_7 (by decide) ?_
  refine lv_istore (lv' := [(5, .int (nI 0)), (3, .long (T.C (le * 13 + en))), (0, .ref (ad 0)), (1, .int (nI le)), (2, .int (nI en))]) hx hb dT_change_8 hl (by decide) rfl (fun ls hl => ?_)
  have loop10 : ∀ (n : Nat) (i : Nat) (C : Nat → Int64) (H : Heap) (locs : List Loc) (ls : Array Slot), (i + n = T.h + 1) → (chL T.d T.w le en i n C = chL T.d T.w le en 0 (T.h + 1) T.C) → va_P (dC, dI) vwCl (TW ad k (ts C T.I T.O T.G T.S T.w T.h T.d)) H → va_D A (TW ad k (ts C T.I T.O T.G T.S T.w T.h T.d)) → va_S A s.heap H locs → lv_has ls 6 [(5, .int (nI i)), (3, .long (T.C (le * 13 + en))), (0, .ref (ad 0)), (1, .int (nI le)), (2, .int (nI en))] → W p l e (headSpec wT_change ({ frames := 2, cells := 0, slots := 0, locals := 64 })).room s m ([.ref (ad 0), .int (nI le), .int (nI en)] : List Value).toArray below meth c H locs 0 0 (MQ below (wQ none (dC, dI) vwCl (TW ad k (chM T le en)) A) ([.ref (ad 0), .int (nI le), .int (nI en)] : List Value).toArray s 0 0 A) (F0 m 10 ls []) := by
    intro n
    induction n with
    | zero =>
      intro i C H locs ls hn hq hP hD hS hl
      refine lv_iload hx hb dT_change_10 (lv_at hl 0 rfl) ?_
      refine lv_aload_n hx hb dT_change_12 rfl (lv_at hl 2 rfl) ?_
      refine va_get (D := (dC, dI)) (ci := 0) (v := .int (nI T.h)) (C := RT) (T := FT) (N := 8) hx hb hta iT hown hK hP 0 rfl rfl 6 (by decide) (hta _ m_34) (fun _ h9 => h9) rfl dT_change_13 ?_
      refine ni_gt (tgt := 39) hx hb dT_change_16 (by decide) (by omega) (by omega) (fun c_1 => ?_) (fun c_1 => ?_)
      · refine lv_aload_n hx hb dT_change_39 rfl (lv_at hl 2 rfl) ?_
        refine lv_iload_n hx hb dT_change_40 rfl (lv_at hl 3 rfl) ?_
        refine lv_iload_n hx hb dT_change_41 rfl (lv_at hl 4 rfl) ?_
        refine wr_call (X := ([] : va_W)) (va_runV (As := [.int (nI le), .int (nI en)]) (rest := []) ⟨hx, hb, hml, hown, hta⟩ (c_T_changeEntered l dC dI ad k (ts C T.I T.O T.G T.S T.w T.h T.d) H.size le en (by first | omega | exact hw | exact hh) (by first | omega | exact hw | exact hh) (by first | omega | exact hw | exact hh)) (cwV 2 hta (gV m_426 m_428 mp_36 m_2 m_429) rfl rfl rfl (by decide +kernel) ⟨Nat.le_of_ble_eq_true rfl, Nat.le_of_ble_eq_true rfl⟩) (wr_V xT_ok trivial hK hP hD (ci := 0) (q0 := 0) rfl rfl) rfl rfl hl.1 rfl (lv_room (Nat.le_of_ble_eq_true rfl)) dT_change_42 ⟨Nat.zero_le _, Nat.zero_le _⟩) hP hD hS hA rfl (fun H locs hP hD hS => ?_)
        have hP : va_P (dC, dI) vwCl (TW ad k (ts (ceL T.d le en 0 (T.w + 1) C) T.I T.O T.G T.S T.w T.h T.d)) H := hP
        have hD : va_D A (TW ad k (ts (ceL T.d le en 0 (T.w + 1) C) T.I T.O T.G T.S T.w T.h T.d)) := hD
        refine W.eq (g2 := F0 m 45 ls []) rfl ?_
        refine lv_aload_n hx hb dT_change_45 rfl (lv_at hl 2 rfl) ?_
        refine va_get (D := (dC, dI)) (ci := 0) (v := .ref (ad 2)) (C := RT) (T := FT) (N := 8) hx hb hta iT hown hK hP 0 rfl rfl 1 (by decide) (hta _ m_27) (fun _ h9 => h9) rfl dT_change_46 ?_
        refine lv_iload_n hx hb dT_change_49 rfl (lv_at hl 3 rfl) ?_
        refine na_iald hx hb hK hP 2 1 rfl rfl (i := le) (by omega) (by decide) dT_change_50 ?_
        refine lv_istore (lv' := [(5, .int (T.I le)), (3, .long (T.C (le * 13 + en))), (0, .ref (ad 0)), (1, .int (nI le)), (2, .int (nI en))]) hx hb dT_change_51 hl (by decide) rfl (fun ls hl => ?_)
        refine lv_aload_n hx hb dT_change_53 rfl (lv_at hl 2 rfl) ?_
        refine va_get (D := (dC, dI)) (ci := 0) (v := .ref (ad 2)) (C := RT) (T := FT) (N := 8) hx hb hta iT hown hK hP 0 rfl rfl 1 (by decide) (hta _ m_27) (fun _ h9 => h9) rfl dT_change_54 ?_
        refine lv_iload_n hx hb dT_change_57 rfl (lv_at hl 3 rfl) ?_
        refine lv_aload_n hx hb dT_change_58 rfl (lv_at hl 2 rfl) ?_
        refine va_get (D := (dC, dI)) (ci := 0) (v := .ref (ad 3)) (C := RT) (T := FT) (N := 8) hx hb hta iT hown hK hP 0 rfl rfl 2 (by decide) (hta _ m_29) (fun _ h9 => h9) rfl dT_change_59 ?_
        refine lv_iload_n hx hb dT_change_62 rfl (lv_at hl 4 rfl) ?_
        refine na_iald hx hb hK hP 3 2 rfl rfl (i := en) (by omega) (by decide) dT_change_63 ?_
        refine na_iast hx hb hK hP hD hS 2 1 rfl rfl (i := le) (x := T.O en) (by omega) (by decide) dT_change_64 (fun H locs hP hD hS => ?_)
        have hP : va_P (dC, dI) vwCl (TW ad k (ts (ceL T.d le en 0 (T.w + 1) C) (upd T.I le (T.O en)) T.O T.G T.S T.w T.h T.d)) H := hP
        have hD : va_D A (TW ad k (ts (ceL T.d le en 0 (T.w + 1) C) (upd T.I le (T.O en)) T.O T.G T.S T.w T.h T.d)) := hD
        refine lv_aload_n hx hb dT_change_65 rfl (lv_at hl 2 rfl) ?_
        refine va_get (D := (dC, dI)) (ci := 0) (v := .ref (ad 3)) (C := RT) (T := FT) (N := 8) hx hb hta iT hown hK hP 0 rfl rfl 2 (by decide) (hta _ m_29) (fun _ h9 => h9) rfl dT_change_66 ?_
        refine lv_iload_n hx hb dT_change_69 rfl (lv_at hl 4 rfl) ?_
        refine lv_iload hx hb dT_change_70 (lv_at hl 0 rfl) ?_
        refine na_iast hx hb hK hP hD hS 3 2 rfl rfl (i := en) (x := T.I le) (by omega) (by decide) dT_change_72 (fun H locs hP hD hS => ?_)
        have hP : va_P (dC, dI) vwCl (TW ad k (ts (ceL T.d le en 0 (T.w + 1) C) (upd T.I le (T.O en)) (upd T.O en (T.I le)) T.G T.S T.w T.h T.d)) H := hP
        have hD : va_D A (TW ad k (ts (ceL T.d le en 0 (T.w + 1) C) (upd T.I le (T.O en)) (upd T.O en (T.I le)) T.G T.S T.w T.h T.d)) := hD
        refine lv_aload_n hx hb dT_change_73 rfl (lv_at hl 2 rfl) ?_
        refine lv_lload_n hx hb dT_change_74 rfl (lv_at hl 1 rfl) ?_
        refine va_put (D := (dC, dI)) (ci := 0) (v := .long (T.C (le * 13 + en))) (ty := .long) (C := RT) (T := FT) (N := 8) hx hb hta iT tT tT_ok nT hown hK hP hD hS 0 rfl rfl 7 (by decide) (hta _ m_36) (fun _ h9 => h9) rfl (by decide +kernel) rfl rfl (Nat.le_of_ble_eq_true rfl) dT_change_75 (fun H locs hP hD hS => ?_)
        have hP : va_P (dC, dI) vwCl (TW ad k (ts (ceL T.d le en 0 (T.w + 1) C) (upd T.I le (T.O en)) (upd T.O en (T.I le)) T.G T.S T.w T.h (T.C (le * 13 + en)))) H := hP
        have hD : va_D A (TW ad k (ts (ceL T.d le en 0 (T.w + 1) C) (upd T.I le (T.O en)) (upd T.O en (T.I le)) T.G T.S T.w T.h (T.C (le * 13 + en)))) := hD
        exact W.vret hx hb hr (fun t ht hW => ⟨rfl, by rw [ht]; exact (by rw [show chM T le en = (ts (ceL T.d le en 0 (T.w + 1) C) (upd T.I le (T.O en)) (upd T.O en (T.I le)) T.G T.S T.w T.h (T.C (le * 13 + en))) by (rw [chM, ← hq]; rfl)]; exact hP), hS.F ht⟩) hS.2.2 dT_change_78
      · exfalso; omega
    | succ n ih =>
      intro i C H locs ls hn hq hP hD hS hl
      refine lv_iload hx hb dT_change_10 (lv_at hl 0 rfl) ?_
      refine lv_aload_n hx hb dT_change_12 rfl (lv_at hl 2 rfl) ?_
      refine va_get (D := (dC, dI)) (ci := 0) (v := .int (nI T.h)) (C := RT) (T := FT) (N := 8) hx hb hta iT hown hK hP 0 rfl rfl 6 (by decide) (hta _ m_34) (fun _ h9 => h9) rfl dT_change_13 ?_
      refine ni_gt (tgt := 39) hx hb dT_change_16 (by decide) (by omega) (by omega) (fun c_2 => ?_) (fun c_2 => ?_)
      · exfalso; omega
      · refine lv_iload hx hb dT_change_19 (lv_at hl 0 rfl) ?_
        refine lv_iload_n hx hb dT_change_21 rfl (lv_at hl 3 rfl) ?_
        refine ni_eq (tgt := 33) hx hb dT_change_22 (by decide) (by omega) (by omega) (fun h1 => ?_) (fun h1 => ?_)
        · refine lv_iinc (v := nI (i + 1)) (lv' := [(5, .int (nI (i + 1))), (3, .long (T.C (le * 13 + en))), (0, .ref (ad 0)), (1, .int (nI le)), (2, .int (nI en))]) hx hb dT_change_33 hl (k := 0) rfl (nI_add i 1) (by decide) rfl (fun ls hl => ?_)
          refine lv_goto (tgt := 10) hx hb dT_change_36 (by decide) ?_
          exact ih (i + 1) (C) H locs ls (by omega) (by rw [← hq]; simp [chL, h1]) hP hD hS (lv_sub hl [0, 1, 2, 3, 4] rfl)
        · refine lv_aload_n hx hb dT_change_25 rfl (lv_at hl 2 rfl) ?_
          refine lv_iload hx hb dT_change_26 (lv_at hl 0 rfl) ?_
          refine lv_iload_n hx hb dT_change_28 rfl (lv_at hl 3 rfl) ?_
          refine lv_iload_n hx hb dT_change_29 rfl (lv_at hl 4 rfl) ?_
          refine wr_call (X := ([] : va_W)) (va_runV (As := [.int (nI i), .int (nI le), .int (nI en)]) (rest := []) ⟨hx, hb, hml, hown, hta⟩ (c_T_changeOther l dC dI ad k (ts C T.I T.O T.G T.S T.w T.h T.d) H.size i le en (by first | omega | exact hw | exact hh) (by first | omega | exact hw | exact hh) (by first | omega | exact hw | exact hh) (by first | omega | exact hw | exact hh)) (cwV 3 hta (gV m_422 m_424 mp_35 m_2 m_425) rfl rfl rfl (by decide +kernel) ⟨Nat.le_of_ble_eq_true rfl, Nat.le_of_ble_eq_true rfl⟩) (wr_V xT_ok trivial hK hP hD (ci := 0) (q0 := 0) rfl rfl) rfl rfl hl.1 rfl (lv_room (Nat.le_of_ble_eq_true rfl)) dT_change_30 ⟨Nat.zero_le _, Nat.zero_le _⟩) hP hD hS hA rfl (fun H locs hP hD hS => ?_)
          have hP : va_P (dC, dI) vwCl (TW ad k (ts (coM T.d T.w i le en C) T.I T.O T.G T.S T.w T.h T.d)) H := hP
          have hD : va_D A (TW ad k (ts (coM T.d T.w i le en C) T.I T.O T.G T.S T.w T.h T.d)) := hD
          refine W.eq (g2 := F0 m 33 ls []) rfl ?_
          refine lv_iinc (v := nI (i + 1)) (lv' := [(5, .int (nI (i + 1))), (3, .long (T.C (le * 13 + en))), (0, .ref (ad 0)), (1, .int (nI le)), (2, .int (nI en))]) hx hb dT_change_33 hl (k := 0) rfl (nI_add i 1) (by decide) rfl (fun ls hl => ?_)
          refine lv_goto (tgt := 10) hx hb dT_change_36 (by decide) ?_
          exact ih (i + 1) (coM T.d T.w i le en C) H locs ls (by omega) (by rw [← hq]; simp [chL, h1]) hP hD hS (lv_sub hl [0, 1, 2, 3, 4] rfl)
  exact loop10 (T.h + 1) 0 T.C s.heap [] ls (by omega) rfl hP hD hS (lv_sub hl [0, 1, 2, 3, 4] rfl)

set_option maxHeartbeats 4000000 in
set_option maxRecDepth 100000 in
theorem c_T_copyStarts (l : Launch) (dC : Nat → ClassId) (dI : Nat → Nat → Nat) (ad : Nat → Nat) (k : Nat → ClassId) (T : TS) (sz : Nat)  (hh : T.h ≤ 24) : Met l yT_copyStarts wT_copyStarts ({ frames := 1, cells := 0, slots := 0, locals := 22 }) (wPc [.ref (ad 0)] sz (dC, dI) vwCl (TW ad k T) (TK k) xT) (wQ none (dC, dI) vwCl (TW ad k (ts T.C T.I T.O T.G (csL T.C 0 (T.h + 1) T.S) T.w T.h T.d)) (va_A (TW ad k T) sz)) 0 0 (va_A (TW ad k T) sz) := by
  refine Met.ofW (cc := bT_copyStarts) (maxL := 2) (ret := none) (by decide) rfl ?_
  intro p e s m args below meth c s₁ B hml hv
  obtain ⟨rfl, hsz, hP, hK, hD0, hX⟩ := hv
  have hx := B.exec
  have hb := B.bytes
  have hr := B.returns
  have hts := atoms_spec (ws := wT_copyStarts) B.pre
  have hta : ∀ w ∈ AW, w.before _ s = true := fun w h => hts w (List.mem_cons_of_mem _ h)
  have hown : s.vm.findClass RT = some m.cls := findClass_of_methodNamed B.named
  have hlocks := B.notSynchronized
  subst hsz
  have hD := hD0.self (sz := s.heap.size)
  generalize hAe : va_A (TW ad k T) s.heap.size = A at hD ⊢
  have hA : ∀ q : Nat, s.heap.size ≤ q → A q := fun q h => by rw [← hAe]; exact Or.inr h
  have hS : va_S A s.heap s.heap [] := va_S.rf
  have hl := lv_entry ([.ref (ad 0)]) (n := 2) (Nat.le_of_ble_eq_true rfl)
  rw [lg_entry_eq]
  generalize (lg_sl ([.ref (ad 0)]) ++ List.replicate (2 - (lg_sl ([.ref (ad 0)])).length) Slot.unset).toArray = ls at hl ⊢
  have hl : lv_has ls 2 [(0, .ref (ad 0))] := hl
  refine lv_iconst (v := nI 0) hx hb dT_copyStarts_0 (by decide) ?_
  refine lv_istore_n (lv' := [(1, .int (nI 0)), (0, .ref (ad 0))]) hx hb dT_copyStarts_1 rfl hl (by decide) rfl (fun ls hl => ?_)
  have loop2 : ∀ (n : Nat) (i : Nat) (S : Nat → Int64) (H : Heap) (locs : List Loc) (ls : Array Slot), (i + n = T.h + 1) → (csL T.C i n S = csL T.C 0 (T.h + 1) T.S) → va_P (dC, dI) vwCl (TW ad k (ts T.C T.I T.O T.G S T.w T.h T.d)) H → va_D A (TW ad k (ts T.C T.I T.O T.G S T.w T.h T.d)) → va_S A s.heap H locs → lv_has ls 2 [(1, .int (nI i)), (0, .ref (ad 0))] → W p l e (headSpec wT_copyStarts ({ frames := 1, cells := 0, slots := 0, locals := 22 })).room s m ([.ref (ad 0)] : List Value).toArray below meth c H locs 0 0 (MQ below (wQ none (dC, dI) vwCl (TW ad k (ts T.C T.I T.O T.G (csL T.C 0 (T.h + 1) T.S) T.w T.h T.d)) A) ([.ref (ad 0)] : List Value).toArray s 0 0 A) (F0 m 2 ls []) := by
    intro n
    induction n with
    | zero =>
      intro i S H locs ls hn hq hP hD hS hl
      refine lv_iload_n hx hb dT_copyStarts_2 rfl (lv_at hl 0 rfl) ?_
      refine lv_aload_n hx hb dT_copyStarts_3 rfl (lv_at hl 1 rfl) ?_
      refine va_get (D := (dC, dI)) (ci := 0) (v := .int (nI T.h)) (C := RT) (T := FT) (N := 8) hx hb hta iT hown hK hP 0 rfl rfl 6 (by decide) (hta _ m_34) (fun _ h9 => h9) rfl dT_copyStarts_4 ?_
      refine ni_gt (tgt := 28) hx hb dT_copyStarts_7 (by decide) (by omega) (by omega) (fun c_1 => ?_) (fun c_1 => ?_)
      · exact W.vret hx hb hr (fun t ht hW => ⟨rfl, by rw [ht]; exact (by rw [← hq]; exact hP), hS.F ht⟩) hS.2.2 dT_copyStarts_28
      · exfalso; omega
    | succ n ih =>
      intro i S H locs ls hn hq hP hD hS hl
      refine lv_iload_n hx hb dT_copyStarts_2 rfl (lv_at hl 0 rfl) ?_
      refine lv_aload_n hx hb dT_copyStarts_3 rfl (lv_at hl 1 rfl) ?_
      refine va_get (D := (dC, dI)) (ci := 0) (v := .int (nI T.h)) (C := RT) (T := FT) (N := 8) hx hb hta iT hown hK hP 0 rfl rfl 6 (by decide) (hta _ m_34) (fun _ h9 => h9) rfl dT_copyStarts_4 ?_
      refine ni_gt (tgt := 28) hx hb dT_copyStarts_7 (by decide) (by omega) (by omega) (fun c_2 => ?_) (fun c_2 => ?_)
      · exfalso; omega
      · refine lv_aload_n hx hb dT_copyStarts_10 rfl (lv_at hl 1 rfl) ?_
        refine va_get (D := (dC, dI)) (ci := 0) (v := .ref (ad 5)) (C := RT) (T := FT) (N := 8) hx hb hta iT hown hK hP 0 rfl rfl 4 (by decide) (hta _ m_31) (fun _ h9 => h9) rfl dT_copyStarts_11 ?_
        refine lv_iload_n hx hb dT_copyStarts_14 rfl (lv_at hl 0 rfl) ?_
        refine lv_aload_n hx hb dT_copyStarts_15 rfl (lv_at hl 1 rfl) ?_
        refine lv_iload_n hx hb dT_copyStarts_16 rfl (lv_at hl 0 rfl) ?_
        refine lv_iconst (v := nI 0) hx hb dT_copyStarts_17 (by decide) ?_
        refine rd_call (va_runV (As := [.int (nI i), .int (nI 0)]) (rest := [.int (nI i), .ref (ad 5)]) ⟨hx, hb, hml, hown, hta⟩ (c_T_cell l dC dI ad k (ts T.C T.I T.O T.G S T.w T.h T.d) i 0 (by first | omega | exact hw | exact hh)) (cwV 2 hta (gV m_123 m_125 mp_4 m_2 m_126) rfl rfl rfl (by decide +kernel) ⟨Nat.le_of_ble_eq_true rfl, Nat.le_of_ble_eq_true rfl⟩) (rd_V xT_ok trivial hK hP (ci := 0) (q0 := 0) rfl rfl) rfl rfl hl.1 rfl (lv_room (Nat.le_of_ble_eq_true rfl)) dT_copyStarts_18 ⟨Nat.zero_le _, Nat.zero_le _⟩) ?_
        refine W.eq (g2 := F0 m 21 ls [.long (T.C (i * 13 + 0)), .int (nI i), .ref (ad 5)]) rfl ?_
        refine na_last hx hb hK hP hD hS 5 4 rfl rfl (i := i) (x := T.C (i * 13 + 0)) (by omega) (by decide) dT_copyStarts_21 (fun H locs hP hD hS => ?_)
        have hP : va_P (dC, dI) vwCl (TW ad k (ts T.C T.I T.O T.G (vp_updL S i (T.C (i * 13 + 0))) T.w T.h T.d)) H := hP
        have hD : va_D A (TW ad k (ts T.C T.I T.O T.G (vp_updL S i (T.C (i * 13 + 0))) T.w T.h T.d)) := hD
        refine lv_iinc (v := nI (i + 1)) (lv' := [(1, .int (nI (i + 1))), (0, .ref (ad 0))]) hx hb dT_copyStarts_22 hl (k := 0) rfl (nI_add i 1) (by decide) rfl (fun ls hl => ?_)
        refine lv_goto (tgt := 2) hx hb dT_copyStarts_25 (by decide) ?_
        exact ih (i + 1) (vp_updL S i (T.C (i * 13 + 0))) H locs ls (by omega) (by rw [← hq]; rfl) hP hD hS (lv_sub hl [0, 1] rfl)
  exact loop2 (T.h + 1) 0 T.S s.heap [] ls (by omega) rfl hP hD hS (lv_sub hl [0, 1] rfl)

set_option maxHeartbeats 4000000 in
set_option maxRecDepth 100000 in
theorem c_T_moveCopied (l : Launch) (dC : Nat → ClassId) (dI : Nat → Nat → Nat) (ad : Nat → Nat) (k : Nat → ClassId) (T : TS) (sz : Nat) (v : Int32) (f : Int64) (hw : T.w ≤ 12) (hh : T.h ≤ 24) : Met l yT_moveCopied wT_moveCopied ({ frames := 1, cells := 0, slots := 0, locals := 22 }) (wPc [.ref (ad 0), .int v, .long f] sz (dC, dI) vwCl (TW ad k T) (TK k) xT) (wQ none (dC, dI) vwCl (TW ad k (ts T.C T.I T.O T.G (mcM T v f) T.w T.h T.d)) (va_A (TW ad k T) sz)) 0 0 (va_A (TW ad k T) sz) := by
  refine Met.ofW (cc := bT_moveCopied) (maxL := 7) (ret := none) (by decide) rfl ?_
  intro p e s m args below meth c s₁ B hml hv
  obtain ⟨rfl, hsz, hP, hK, hD0, hX⟩ := hv
  have hx := B.exec
  have hb := B.bytes
  have hr := B.returns
  have hts := atoms_spec (ws := wT_moveCopied) B.pre
  have hta : ∀ w ∈ AW, w.before _ s = true := fun w h => hts w (List.mem_cons_of_mem _ h)
  have hown : s.vm.findClass RT = some m.cls := findClass_of_methodNamed B.named
  have hlocks := B.notSynchronized
  subst hsz
  have hD := hD0.self (sz := s.heap.size)
  generalize hAe : va_A (TW ad k T) s.heap.size = A at hD ⊢
  have hA : ∀ q : Nat, s.heap.size ≤ q → A q := fun q h => by rw [← hAe]; exact Or.inr h
  have hS : va_S A s.heap s.heap [] := va_S.rf
  have hl := lv_entry ([.ref (ad 0), .int v, .long f]) (n := 7) (Nat.le_of_ble_eq_true rfl)
  rw [lg_entry_eq]
  generalize (lg_sl ([.ref (ad 0), .int v, .long f]) ++ List.replicate (7 - (lg_sl ([.ref (ad 0), .int v, .long f])).length) Slot.unset).toArray = ls at hl ⊢
  have hl : lv_has ls 7 [(0, .ref (ad 0)), (1, .int v), (2, .long f)] := hl
  refine lv_aload_n hx hb dT_moveCopied_0 rfl (lv_at hl 0 rfl) ?_
  refine lv_iload_n hx hb dT_moveCopied_1 rfl (lv_at hl 1 rfl) ?_
  refine rd_call (va_runV (As := [.int v]) (rest := []) ⟨hx, hb, hml, hown, hta⟩ (c_T_placeInside l dC dI ad k T v (by first | omega | exact hw | exact hh)) (cwV 1 hta (gV m_119 m_121 mp_3 m_2 m_122) rfl rfl rfl (by decide +kernel) ⟨Nat.le_of_ble_eq_true rfl, Nat.le_of_ble_eq_true rfl⟩) (rd_V xT_ok trivial hK hP (ci := 0) (q0 := 0) rfl rfl) rfl rfl hl.1 rfl (lv_room (Nat.le_of_ble_eq_true rfl)) dT_moveCopied_2 ⟨Nat.zero_le _, Nat.zero_le _⟩) ?_
  refine W.eq (g2 := F0 m 5 ls [.int (enc (fnd T.I v 1 T.h))]) rfl ?_
  refine lv_istore (lv' := [(4, .int (enc (fnd T.I v 1 T.h))), (0, .ref (ad 0)), (1, .int v), (2, .long f)]) hx hb dT_moveCopied_5 hl (by decide) rfl (fun ls hl => ?_)
  refine lv_iload hx hb dT_moveCopied_7 (lv_at hl 0 rfl) ?_
  refine lv_iconst (v := (-1)) hx hb dT_moveCopied_9 (by decide) ?_
  refine en_eq (o := (fnd T.I v 1 T.h)) (tgt := 30) hx hb dT_moveCopied_10 (by decide) (fun j h => by have := fnd_lt h; omega) (fun ho => ?_) (fun j_1 ho => ?_)
  · rw [ho] at hl
    have hl : lv_has ls 7 [(4, .int (-1)), (0, .ref (ad 0)), (1, .int v), (2, .long f)] := hl
    refine lv_aload_n hx hb dT_moveCopied_30 rfl (lv_at hl 1 rfl) ?_
    refine lv_iload_n hx hb dT_moveCopied_31 rfl (lv_at hl 2 rfl) ?_
    refine rd_call (va_runV (As := [.int v]) (rest := []) ⟨hx, hb, hml, hown, hta⟩ (c_T_placeOutside l dC dI ad k T v (by first | omega | exact hw | exact hh)) (cwV 1 hta (gV m_342 m_344 mp_19 m_2 m_345) rfl rfl rfl (by decide +kernel) ⟨Nat.le_of_ble_eq_true rfl, Nat.le_of_ble_eq_true rfl⟩) (rd_V xT_ok trivial hK hP (ci := 0) (q0 := 0) rfl rfl) rfl rfl hl.1 rfl (lv_room (Nat.le_of_ble_eq_true rfl)) dT_moveCopied_32 ⟨Nat.zero_le _, Nat.zero_le _⟩) ?_
    refine W.eq (g2 := F0 m 35 ls [.int (enc (fnd T.O v 1 T.w))]) rfl ?_
    refine lv_istore (lv' := [(5, .int (enc (fnd T.O v 1 T.w))), (4, .int (-1)), (0, .ref (ad 0)), (1, .int v), (2, .long f)]) hx hb dT_moveCopied_35 hl (by decide) rfl (fun ls hl => ?_)
    refine lv_iconst (v := nI 0) hx hb dT_moveCopied_37 (by decide) ?_
    refine lv_istore (lv' := [(6, .int (nI 0)), (5, .int (enc (fnd T.O v 1 T.w))), (4, .int (-1)), (0, .ref (ad 0)), (1, .int v), (2, .long f)]) hx hb dT_moveCopied_38 hl (by decide) rfl (fun ls hl => ?_)
    rcases hi9 : fnd T.O v 1 T.w with _ | i
    · rw [hi9] at hl
      have hl : lv_has ls 7 [(6, .int (nI 0)), (5, .int (-1)), (4, .int (-1)), (0, .ref (ad 0)), (1, .int v), (2, .long f)] := hl
      refine lv_iload hx hb dT_moveCopied_40 (lv_at hl 1 rfl) ?_
      refine lv_iconst (v := (-1)) hx hb dT_moveCopied_42 (by decide) ?_
      refine lv_icmp_eq (tgt := 81) hx hb dT_moveCopied_43 (by decide) (fun hz => ?_) (fun hz => ?_)
      · exact W.vret hx hb hr (fun t ht hW => ⟨rfl, by rw [ht]; exact (by rw [show mcM T v f = T.S by simp only [mcM, ho, hi9]]; exact hP), hS.F ht⟩) hS.2.2 dT_moveCopied_81
      · exact absurd rfl hz
    · rw [hi9] at hl
      have hl : lv_has ls 7 [(6, .int (nI 0)), (5, .int (nI i)), (4, .int (-1)), (0, .ref (ad 0)), (1, .int v), (2, .long f)] := hl
      have hi8 := fnd_lt hi9
      have loop40 : ∀ (n : Nat) (j : Nat) (S : Nat → Int64) (H : Heap) (locs : List Loc) (ls : Array Slot), (j + n = T.h + 1) → (mcL T.C i f j n S = mcL T.C i f 0 (T.h + 1) T.S) → va_P (dC, dI) vwCl (TW ad k (ts T.C T.I T.O T.G S T.w T.h T.d)) H → va_D A (TW ad k (ts T.C T.I T.O T.G S T.w T.h T.d)) → va_S A s.heap H locs → lv_has ls 7 [(6, .int (nI j)), (5, .int (nI i)), (4, .int (-1)), (0, .ref (ad 0)), (1, .int v), (2, .long f)] → W p l e (headSpec wT_moveCopied ({ frames := 1, cells := 0, slots := 0, locals := 22 })).room s m ([.ref (ad 0), .int v, .long f] : List Value).toArray below meth c H locs 0 0 (MQ below (wQ none (dC, dI) vwCl (TW ad k (ts T.C T.I T.O T.G (mcM T v f) T.w T.h T.d)) A) ([.ref (ad 0), .int v, .long f] : List Value).toArray s 0 0 A) (F0 m 40 ls []) := by
        intro n
        induction n with
        | zero =>
          intro j S H locs ls hn hq hP hD hS hl
          refine lv_iload hx hb dT_moveCopied_40 (lv_at hl 1 rfl) ?_
          refine lv_iconst (v := (-1)) hx hb dT_moveCopied_42 (by decide) ?_
          refine lv_icmp_eq (tgt := 81) hx hb dT_moveCopied_43 (by decide) (fun hz => ?_) (fun hz => ?_)
          · exact absurd hz (enc_some (by omega))
          · refine lv_iload hx hb dT_moveCopied_46 (lv_at hl 0 rfl) ?_
            refine lv_aload_n hx hb dT_moveCopied_48 rfl (lv_at hl 3 rfl) ?_
            refine va_get (D := (dC, dI)) (ci := 0) (v := .int (nI T.h)) (C := RT) (T := FT) (N := 8) hx hb hta iT hown hK hP 0 rfl rfl 6 (by decide) (hta _ m_34) (fun _ h9 => h9) rfl dT_moveCopied_49 ?_
            refine ni_gt (tgt := 81) hx hb dT_moveCopied_52 (by decide) (by omega) (by omega) (fun c_2 => ?_) (fun c_2 => ?_)
            · exact W.vret hx hb hr (fun t ht hW => ⟨rfl, by rw [ht]; exact (by rw [show mcM T v f = S by (simp only [mcM, ho, hi9]; exact hq.symm)]; exact hP), hS.F ht⟩) hS.2.2 dT_moveCopied_81
            · exfalso; omega
        | succ n ih =>
          intro j S H locs ls hn hq hP hD hS hl
          refine lv_iload hx hb dT_moveCopied_40 (lv_at hl 1 rfl) ?_
          refine lv_iconst (v := (-1)) hx hb dT_moveCopied_42 (by decide) ?_
          refine lv_icmp_eq (tgt := 81) hx hb dT_moveCopied_43 (by decide) (fun hz => ?_) (fun hz => ?_)
          · exact absurd hz (enc_some (by omega))
          · refine lv_iload hx hb dT_moveCopied_46 (lv_at hl 0 rfl) ?_
            refine lv_aload_n hx hb dT_moveCopied_48 rfl (lv_at hl 3 rfl) ?_
            refine va_get (D := (dC, dI)) (ci := 0) (v := .int (nI T.h)) (C := RT) (T := FT) (N := 8) hx hb hta iT hown hK hP 0 rfl rfl 6 (by decide) (hta _ m_34) (fun _ h9 => h9) rfl dT_moveCopied_49 ?_
            refine ni_gt (tgt := 81) hx hb dT_moveCopied_52 (by decide) (by omega) (by omega) (fun c_3 => ?_) (fun c_3 => ?_)
            · exfalso; omega
            · refine lv_aload_n hx hb dT_moveCopied_55 rfl (lv_at hl 3 rfl) ?_
              refine va_get (D := (dC, dI)) (ci := 0) (v := .ref (ad 5)) (C := RT) (T := FT) (N := 8) hx hb hta iT hown hK hP 0 rfl rfl 4 (by decide) (hta _ m_31) (fun _ h9 => h9) rfl dT_moveCopied_56 ?_
              refine lv_iload hx hb dT_moveCopied_59 (lv_at hl 0 rfl) ?_
              refine lv_dup2_11 hx hb dT_moveCopied_61 rfl rfl ?_
              refine na_lald hx hb hK hP 5 4 rfl rfl (i := j) (by omega) (by decide) dT_moveCopied_62 ?_
              refine lv_aload_n hx hb dT_moveCopied_63 rfl (lv_at hl 3 rfl) ?_
              refine lv_iload hx hb dT_moveCopied_64 (lv_at hl 0 rfl) ?_
              refine lv_iload hx hb dT_moveCopied_66 (lv_at hl 1 rfl) ?_
              refine rd_call (va_runV (As := [.int (nI j), .int (nI i)]) (rest := [.long (S j), .int (nI j), .ref (ad 5)]) ⟨hx, hb, hml, hown, hta⟩ (c_T_cell l dC dI ad k (ts T.C T.I T.O T.G S T.w T.h T.d) j i (by first | omega | exact hw | exact hh)) (cwV 2 hta (gV m_123 m_125 mp_4 m_2 m_126) rfl rfl rfl (by decide +kernel) ⟨Nat.le_of_ble_eq_true rfl, Nat.le_of_ble_eq_true rfl⟩) (rd_V xT_ok trivial hK hP (ci := 0) (q0 := 0) rfl rfl) rfl rfl hl.1 rfl (lv_room (Nat.le_of_ble_eq_true rfl)) dT_moveCopied_68 ⟨Nat.zero_le _, Nat.zero_le _⟩) ?_
              refine W.eq (g2 := F0 m 71 ls [.long (T.C (j * 13 + i)), .long (S j), .int (nI j), .ref (ad 5)]) rfl ?_
              refine lv_lload_n hx hb dT_moveCopied_71 rfl (lv_at hl 5 rfl) ?_
              refine lv_lmul hx hb dT_moveCopied_72 ?_
              refine lv_lsub hx hb dT_moveCopied_73 ?_
              refine na_last hx hb hK hP hD hS 5 4 rfl rfl (i := j) (x := (S j) - ((T.C (j * 13 + i)) * f)) (by omega) (by decide) dT_moveCopied_74 (fun H locs hP hD hS => ?_)
              have hP : va_P (dC, dI) vwCl (TW ad k (ts T.C T.I T.O T.G (vp_updL S j ((S j) - ((T.C (j * 13 + i)) * f))) T.w T.h T.d)) H := hP
              have hD : va_D A (TW ad k (ts T.C T.I T.O T.G (vp_updL S j ((S j) - ((T.C (j * 13 + i)) * f))) T.w T.h T.d)) := hD
              refine lv_iinc (v := nI (j + 1)) (lv' := [(6, .int (nI (j + 1))), (5, .int (nI i)), (4, .int (-1)), (0, .ref (ad 0)), (1, .int v), (2, .long f)]) hx hb dT_moveCopied_75 hl (k := 0) rfl (nI_add j 1) (by decide) rfl (fun ls hl => ?_)
              refine lv_goto (tgt := 40) hx hb dT_moveCopied_78 (by decide) ?_
              exact ih (j + 1) (vp_updL S j ((S j) - ((T.C (j * 13 + i)) * f))) H locs ls (by omega) (by rw [← hq]; rfl) hP hD hS (lv_sub hl [0, 1, 2, 3, 4, 5] rfl)
      exact loop40 (T.h + 1) 0 T.S s.heap [] ls (by omega) rfl hP hD hS (lv_sub hl [0, 1, 2, 3, 4, 5] rfl)
  · rw [ho] at hl
    have hl : lv_has ls 7 [(4, .int (nI j_1)), (0, .ref (ad 0)), (1, .int v), (2, .long f)] := hl
    have hj_1 := fnd_lt ho
    refine lv_aload_n hx hb dT_moveCopied_13 rfl (lv_at hl 1 rfl) ?_
    refine va_get (D := (dC, dI)) (ci := 0) (v := .ref (ad 5)) (C := RT) (T := FT) (N := 8) hx hb hta iT hown hK hP 0 rfl rfl 4 (by decide) (hta _ m_31) (fun _ h9 => h9) rfl dT_moveCopied_14 ?_
    refine lv_iload hx hb dT_moveCopied_17 (lv_at hl 0 rfl) ?_
    refine lv_dup2_11 hx hb dT_moveCopied_19 rfl rfl ?_
    refine na_lald hx hb hK hP 5 4 rfl rfl (i := j_1) (by omega) (by decide) dT_moveCopied_20 ?_
    refine lv_aload_n hx hb dT_moveCopied_21 rfl (lv_at hl 1 rfl) ?_
    refine va_get (D := (dC, dI)) (ci := 0) (v := .long T.d) (C := RT) (T := FT) (N := 8) hx hb hta iT hown hK hP 0 rfl rfl 7 (by decide) (hta _ m_36) (fun _ h9 => h9) rfl dT_moveCopied_22 ?_
    refine lv_lload_n hx hb dT_moveCopied_25 rfl (lv_at hl 3 rfl) ?_
    refine lv_lmul hx hb dT_moveCopied_26 ?_
    refine lv_ladd hx hb dT_moveCopied_27 ?_
    refine na_last hx hb hK hP hD hS 5 4 rfl rfl (i := j_1) (x := (T.S j_1) + (T.d * f)) (by omega) (by decide) dT_moveCopied_28 (fun H locs hP hD hS => ?_)
    have hP : va_P (dC, dI) vwCl (TW ad k (ts T.C T.I T.O T.G (vp_updL T.S j_1 ((T.S j_1) + (T.d * f))) T.w T.h T.d)) H := hP
    have hD : va_D A (TW ad k (ts T.C T.I T.O T.G (vp_updL T.S j_1 ((T.S j_1) + (T.d * f))) T.w T.h T.d)) := hD
    exact W.vret hx hb hr (fun t ht hW => ⟨rfl, by rw [ht]; exact (by simpa only [mcM, ho] using hP), hS.F ht⟩) hS.2.2 dT_moveCopied_29

set_option maxHeartbeats 4000000 in
set_option maxRecDepth 100000 in
theorem c_T_takeCopiedStarts (l : Launch) (dC : Nat → ClassId) (dI : Nat → Nat → Nat) (ad : Nat → Nat) (k : Nat → ClassId) (T : TS) (sz : Nat)  (hh : T.h ≤ 24) : Met l yT_takeCopiedStarts wT_takeCopiedStarts ({ frames := 1, cells := 0, slots := 0, locals := 24 }) (wPc [.ref (ad 0)] sz (dC, dI) vwCl (TW ad k T) (TK k) xT) (wQ (some (.int (bI (allF T.S 0 (T.h + 1))))) (dC, dI) vwCl (TW ad k (ts (if allF T.S 0 (T.h + 1) then tkL T.S 0 (T.h + 1) T.C else T.C) T.I T.O T.G T.S T.w T.h T.d)) (va_A (TW ad k T) sz)) 0 0 (va_A (TW ad k T) sz) := by
  refine Met.ofW (cc := bT_takeCopiedStarts) (maxL := 2) (ret := (some .boolean)) (by decide) rfl ?_
  intro p e s m args below meth c s₁ B hml hv
  obtain ⟨rfl, hsz, hP, hK, hD0, hX⟩ := hv
  have hx := B.exec
  have hb := B.bytes
  have hr := B.returns
  have hts := atoms_spec (ws := wT_takeCopiedStarts) B.pre
  have hta : ∀ w ∈ AW, w.before _ s = true := fun w h => hts w (List.mem_cons_of_mem _ h)
  have hown : s.vm.findClass RT = some m.cls := findClass_of_methodNamed B.named
  have hlocks := B.notSynchronized
  subst hsz
  have hD := hD0.self (sz := s.heap.size)
  generalize hAe : va_A (TW ad k T) s.heap.size = A at hD ⊢
  have hA : ∀ q : Nat, s.heap.size ≤ q → A q := fun q h => by rw [← hAe]; exact Or.inr h
  have hS : va_S A s.heap s.heap [] := va_S.rf
  have hl := lv_entry ([.ref (ad 0)]) (n := 2) (Nat.le_of_ble_eq_true rfl)
  rw [lg_entry_eq]
  generalize (lg_sl ([.ref (ad 0)]) ++ List.replicate (2 - (lg_sl ([.ref (ad 0)])).length) Slot.unset).toArray = ls at hl ⊢
  have hl : lv_has ls 2 [(0, .ref (ad 0))] := hl
  refine lv_iconst (v := nI 0) hx hb dT_takeCopiedStarts_0 (by decide) ?_
  refine lv_istore_n (lv' := [(1, .int (nI 0)), (0, .ref (ad 0))]) hx hb dT_takeCopiedStarts_1 rfl hl (by decide) rfl (fun ls hl => ?_)
  have loop2 : ∀ (n : Nat) (i : Nat) (ls : Array Slot), (i + n = T.h + 1) → (allF T.S i n = allF T.S 0 (T.h + 1)) → lv_has ls 2 [(1, .int (nI i)), (0, .ref (ad 0))] → W p l e (headSpec wT_takeCopiedStarts ({ frames := 1, cells := 0, slots := 0, locals := 24 })).room s m ([.ref (ad 0)] : List Value).toArray below meth c s.heap [] 0 0 (MQ below (wQ (some (.int (bI (allF T.S 0 (T.h + 1))))) (dC, dI) vwCl (TW ad k (ts (if allF T.S 0 (T.h + 1) then tkL T.S 0 (T.h + 1) T.C else T.C) T.I T.O T.G T.S T.w T.h T.d)) A) ([.ref (ad 0)] : List Value).toArray s 0 0 A) (F0 m 2 ls []) := by
    intro n
    induction n with
    | zero =>
      intro i ls hn hq hl
      refine lv_iload_n hx hb dT_takeCopiedStarts_2 rfl (lv_at hl 0 rfl) ?_
      refine lv_aload_n hx hb dT_takeCopiedStarts_3 rfl (lv_at hl 1 rfl) ?_
      refine va_get (D := (dC, dI)) (ci := 0) (v := .int (nI T.h)) (C := RT) (T := FT) (N := 8) hx hb hta iT hown hK hP 0 rfl rfl 6 (by decide) (hta _ m_34) (fun _ h9 => h9) rfl dT_takeCopiedStarts_4 ?_
      refine ni_gt (tgt := 30) hx hb dT_takeCopiedStarts_7 (by decide) (by omega) (by omega) (fun c_1 => ?_) (fun c_1 => ?_)
      · refine lv_iconst (v := nI 0) hx hb dT_takeCopiedStarts_30 (by decide) ?_
        refine lv_istore_n (lv' := [(1, .int (nI 0)), (0, .ref (ad 0))]) hx hb dT_takeCopiedStarts_31 rfl hl (by decide) rfl (fun ls hl => ?_)
        have loop32 : ∀ (n : Nat) (i : Nat) (C : Nat → Int64) (H : Heap) (locs : List Loc) (ls : Array Slot), (i + n = T.h + 1) → (tkL T.S i n C = tkL T.S 0 (T.h + 1) T.C) → va_P (dC, dI) vwCl (TW ad k (ts C T.I T.O T.G T.S T.w T.h T.d)) H → va_D A (TW ad k (ts C T.I T.O T.G T.S T.w T.h T.d)) → va_S A s.heap H locs → lv_has ls 2 [(1, .int (nI i)), (0, .ref (ad 0))] → W p l e (headSpec wT_takeCopiedStarts ({ frames := 1, cells := 0, slots := 0, locals := 24 })).room s m ([.ref (ad 0)] : List Value).toArray below meth c H locs 0 0 (MQ below (wQ (some (.int (bI (allF T.S 0 (T.h + 1))))) (dC, dI) vwCl (TW ad k (ts (if allF T.S 0 (T.h + 1) then tkL T.S 0 (T.h + 1) T.C else T.C) T.I T.O T.G T.S T.w T.h T.d)) A) ([.ref (ad 0)] : List Value).toArray s 0 0 A) (F0 m 32 ls []) := by
          intro n
          induction n with
          | zero =>
            intro i C H locs ls hn hq2 hP hD hS hl
            refine lv_iload_n hx hb dT_takeCopiedStarts_32 rfl (lv_at hl 0 rfl) ?_
            refine lv_aload_n hx hb dT_takeCopiedStarts_33 rfl (lv_at hl 1 rfl) ?_
            refine va_get (D := (dC, dI)) (ci := 0) (v := .int (nI T.h)) (C := RT) (T := FT) (N := 8) hx hb hta iT hown hK hP 0 rfl rfl 6 (by decide) (hta _ m_34) (fun _ h9 => h9) rfl dT_takeCopiedStarts_34 ?_
            refine ni_gt (tgt := 58) hx hb dT_takeCopiedStarts_37 (by decide) (by omega) (by omega) (fun c_2 => ?_) (fun c_2 => ?_)
            · refine lv_iconst (v := 1) hx hb dT_takeCopiedStarts_58 (by decide) ?_
              exact W.zret (v := 1) hx hb hr (rfl) (fun t ht hW => ⟨congrArg (fun z => Outcome.returned (some (.int z))) (by rw [← hq]; rfl), by rw [ht]; exact (by rw [show (if allF T.S 0 (T.h + 1) then tkL T.S 0 (T.h + 1) T.C else T.C) = C by (rw [← hq]; exact hq2.symm)]; exact hP), hS.F ht⟩) hS.2.2 dT_takeCopiedStarts_59
            · exfalso; omega
          | succ n ih =>
            intro i C H locs ls hn hq2 hP hD hS hl
            refine lv_iload_n hx hb dT_takeCopiedStarts_32 rfl (lv_at hl 0 rfl) ?_
            refine lv_aload_n hx hb dT_takeCopiedStarts_33 rfl (lv_at hl 1 rfl) ?_
            refine va_get (D := (dC, dI)) (ci := 0) (v := .int (nI T.h)) (C := RT) (T := FT) (N := 8) hx hb hta iT hown hK hP 0 rfl rfl 6 (by decide) (hta _ m_34) (fun _ h9 => h9) rfl dT_takeCopiedStarts_34 ?_
            refine ni_gt (tgt := 58) hx hb dT_takeCopiedStarts_37 (by decide) (by omega) (by omega) (fun c_3 => ?_) (fun c_3 => ?_)
            · exfalso; omega
            · refine lv_aload_n hx hb dT_takeCopiedStarts_40 rfl (lv_at hl 1 rfl) ?_
              refine lv_iload_n hx hb dT_takeCopiedStarts_41 rfl (lv_at hl 0 rfl) ?_
              refine lv_iconst (v := nI 0) hx hb dT_takeCopiedStarts_42 (by decide) ?_
              refine lv_aload_n hx hb dT_takeCopiedStarts_43 rfl (lv_at hl 1 rfl) ?_
              refine va_get (D := (dC, dI)) (ci := 0) (v := .ref (ad 5)) (C := RT) (T := FT) (N := 8) hx hb hta iT hown hK hP 0 rfl rfl 4 (by decide) (hta _ m_31) (fun _ h9 => h9) rfl dT_takeCopiedStarts_44 ?_
              refine lv_iload_n hx hb dT_takeCopiedStarts_47 rfl (lv_at hl 0 rfl) ?_
              refine na_lald hx hb hK hP 5 4 rfl rfl (i := i) (by omega) (by decide) dT_takeCopiedStarts_48 ?_
              refine wr_call (X := ([] : va_W)) (va_runV (As := [.int (nI i), .int (nI 0), .long (T.S i)]) (rest := []) ⟨hx, hb, hml, hown, hta⟩ (c_T_setCell l dC dI ad k (ts C T.I T.O T.G T.S T.w T.h T.d) H.size i 0 (T.S i) (by first | omega | exact hw | exact hh)) (cwV 3 hta (gV m_240 m_242 mp_8 m_2 m_243) rfl rfl rfl (by decide +kernel) ⟨Nat.le_of_ble_eq_true rfl, Nat.le_of_ble_eq_true rfl⟩) (wr_V xT_ok trivial hK hP hD (ci := 0) (q0 := 0) rfl rfl) rfl rfl hl.1 rfl (lv_room (Nat.le_of_ble_eq_true rfl)) dT_takeCopiedStarts_49 ⟨Nat.zero_le _, Nat.zero_le _⟩) hP hD hS hA rfl (fun H locs hP hD hS => ?_)
              have hP : va_P (dC, dI) vwCl (TW ad k (ts (vp_updL C (i * 13 + 0) (T.S i)) T.I T.O T.G T.S T.w T.h T.d)) H := hP
              have hD : va_D A (TW ad k (ts (vp_updL C (i * 13 + 0) (T.S i)) T.I T.O T.G T.S T.w T.h T.d)) := hD
              refine W.eq (g2 := F0 m 52 ls []) rfl ?_
              refine lv_iinc (v := nI (i + 1)) (lv' := [(1, .int (nI (i + 1))), (0, .ref (ad 0))]) hx hb dT_takeCopiedStarts_52 hl (k := 0) rfl (nI_add i 1) (by decide) rfl (fun ls hl => ?_)
              refine lv_goto (tgt := 32) hx hb dT_takeCopiedStarts_55 (by decide) ?_
              exact ih (i + 1) (vp_updL C (i * 13 + 0) (T.S i)) H locs ls (by omega) (by rw [← hq2]; rfl) hP hD hS (lv_sub hl [0, 1] rfl)
        exact loop32 (T.h + 1) 0 T.C s.heap [] ls (by omega) rfl hP hD hS (lv_sub hl [0, 1] rfl)
      · exfalso; omega
    | succ n ih =>
      intro i ls hn hq hl
      refine lv_iload_n hx hb dT_takeCopiedStarts_2 rfl (lv_at hl 0 rfl) ?_
      refine lv_aload_n hx hb dT_takeCopiedStarts_3 rfl (lv_at hl 1 rfl) ?_
      refine va_get (D := (dC, dI)) (ci := 0) (v := .int (nI T.h)) (C := RT) (T := FT) (N := 8) hx hb hta iT hown hK hP 0 rfl rfl 6 (by decide) (hta _ m_34) (fun _ h9 => h9) rfl dT_takeCopiedStarts_4 ?_
      refine ni_gt (tgt := 30) hx hb dT_takeCopiedStarts_7 (by decide) (by omega) (by omega) (fun c_4 => ?_) (fun c_4 => ?_)
      · exfalso; omega
      · refine lv_aload_n hx hb dT_takeCopiedStarts_10 rfl (lv_at hl 1 rfl) ?_
        refine va_get (D := (dC, dI)) (ci := 0) (v := .ref (ad 5)) (C := RT) (T := FT) (N := 8) hx hb hta iT hown hK hP 0 rfl rfl 4 (by decide) (hta _ m_31) (fun _ h9 => h9) rfl dT_takeCopiedStarts_11 ?_
        refine lv_iload_n hx hb dT_takeCopiedStarts_14 rfl (lv_at hl 0 rfl) ?_
        refine na_lald hx hb hK hP 5 4 rfl rfl (i := i) (by omega) (by decide) dT_takeCopiedStarts_15 ?_
        refine rd_call (va_runS (As := [.long (T.S i)]) (rest := []) ⟨hx, hb, hml, hown, hta⟩ (c_T_fits l dC dI ad k (T.S i)) (cwS 1 hta (gS m_350 m_351 m_2 m_352) rfl rfl rfl (by decide +kernel) ⟨Nat.le_of_ble_eq_true rfl, Nat.le_of_ble_eq_true rfl⟩) (rd_S xT_ok trivial (hK.sub [] rfl) va_P_nil) rfl rfl hl.1 rfl (lv_room (Nat.le_of_ble_eq_true rfl)) dT_takeCopiedStarts_16 ⟨Nat.zero_le _, Nat.zero_le _⟩) ?_
        refine W.eq (g2 := F0 m 19 ls [.int (bI (fits9 (T.S i)))]) rfl ?_
        refine lb_ne (tgt := 24) hx hb dT_takeCopiedStarts_19 (by decide) (fun hc => ?_) (fun hc => ?_)
        · refine lv_iinc (v := nI (i + 1)) (lv' := [(1, .int (nI (i + 1))), (0, .ref (ad 0))]) hx hb dT_takeCopiedStarts_24 hl (k := 0) rfl (nI_add i 1) (by decide) rfl (fun ls hl => ?_)
          refine lv_goto (tgt := 2) hx hb dT_takeCopiedStarts_27 (by decide) ?_
          exact ih (i + 1) ls (by omega) (by rw [← hq]; simp [allF, hc]) (lv_sub hl [0, 1] rfl)
        · refine lv_iconst (v := 0) hx hb dT_takeCopiedStarts_22 (by decide) ?_
          exact W.zret (v := 0) hx hb hr (rfl) (fun t ht hW => ⟨congrArg (fun z => Outcome.returned (some (.int z))) (by rw [← hq]; simp [allF, hc, bI]), by rw [ht]; exact (by rw [show (if allF T.S 0 (T.h + 1) then tkL T.S 0 (T.h + 1) T.C else T.C) = T.C by (rw [← hq]; simp [allF, hc])]; exact hP), hS.F ht⟩) hS.2.2 dT_takeCopiedStarts_23
  exact loop2 (T.h + 1) 0 ls (by omega) rfl (lv_sub hl [0, 1] rfl)

set_option maxHeartbeats 4000000 in
set_option maxRecDepth 100000 in
theorem c_T_tell (l : Launch) (dC : Nat → ClassId) (dI : Nat → Nat → Nat) (ad : Nat → Nat) (k : Nat → ClassId) (F : Nat → Int32) (T : TS) (sz : Nat) (f0 : Nat) (b : Int64) (hw : T.w ≤ 12) (hh : T.h ≤ 24) (hf : f0 + 12 ≤ 144) : Met l yT_tell wT_tell ({ frames := 2, cells := 0, slots := 0, locals := 48 }) (wPc [.ref (ad 0), .ref (ad 6), .int (nI f0), .long b] sz (dC, dI) vwCl (FW ad k F ++ TW ad k T) (FK k ++ TK k) xT) (wQ none (dC, dI) vwCl (FW ad k F ++ TW ad k (ts T.C T.I T.O (teM T F f0 b) T.S T.w T.h T.d)) (va_A (FW ad k F ++ TW ad k T) sz)) 0 0 (va_A (FW ad k F ++ TW ad k T) sz) := by
  refine Met.ofW (cc := bT_tell) (maxL := 6) (ret := none) (by decide) rfl ?_
  intro p e s m args below meth c s₁ B hml hv
  obtain ⟨rfl, hsz, hP, hK, hD0, hX⟩ := hv
  have hx := B.exec
  have hb := B.bytes
  have hr := B.returns
  have hts := atoms_spec (ws := wT_tell) B.pre
  have hta : ∀ w ∈ AW, w.before _ s = true := fun w h => hts w (List.mem_cons_of_mem _ h)
  have hown : s.vm.findClass RT = some m.cls := findClass_of_methodNamed B.named
  have hlocks := B.notSynchronized
  subst hsz
  have hD := hD0.self (sz := s.heap.size)
  generalize hAe : va_A (FW ad k F ++ TW ad k T) s.heap.size = A at hD ⊢
  have hA : ∀ q : Nat, s.heap.size ≤ q → A q := fun q h => by rw [← hAe]; exact Or.inr h
  have hS : va_S A s.heap s.heap [] := va_S.rf
  have hl := lv_entry ([.ref (ad 0), .ref (ad 6), .int (nI f0), .long b]) (n := 6) (Nat.le_of_ble_eq_true rfl)
  rw [lg_entry_eq]
  generalize (lg_sl ([.ref (ad 0), .ref (ad 6), .int (nI f0), .long b]) ++ List.replicate (6 - (lg_sl ([.ref (ad 0), .ref (ad 6), .int (nI f0), .long b])).length) Slot.unset).toArray = ls at hl ⊢
  have hl : lv_has ls 6 [(0, .ref (ad 0)), (1, .ref (ad 6)), (2, .int (nI f0)), (3, .long b)] := hl
  refine lv_aload_n hx hb dT_tell_0 rfl (lv_at hl 0 rfl) ?_
  refine va_get (D := (dC, dI)) (ci := 0) (v := .ref (ad 4)) (C := RT) (T := FT) (N := 8) hx hb hta iT hown hK hP 1 rfl rfl 3 (by decide) (hta _ m_30) (fun _ h9 => h9) rfl dT_tell_1 ?_
  refine lv_lconst (v := 0) hx hb dT_tell_4 (by decide) ?_
  refine wr_call (X := ([0, 1, 2, 3, 4, 6].filterMap (fun i => (FW ad k F ++ TW ad k T)[i]?))) (va_runS (As := [.ref (ad 4), .long 0]) (rest := []) ⟨hx, hb, hml, hown, hta⟩ (c_A_fill l dC dI (ad 4) (k 4) T.G s.heap.size 0) (va_cwS 2 hta (gA m_375 m_376 m_11 m_377) rfl rfl rfl (by decide +kernel) ⟨Nat.le_of_ble_eq_true rfl, Nat.le_of_ble_eq_true rfl⟩) (wr_S xT_ok trivial (hK.sub [4] rfl) (hP.sub [5] rfl) (hD.sub [5] (by decide) rfl)) rfl rfl hl.1 rfl (lv_room (Nat.le_of_ble_eq_true rfl)) dT_tell_5 ⟨Nat.zero_le _, Nat.zero_le _⟩) (hP.sub [0, 1, 2, 3, 4, 6, 5] rfl) (hD.sub [0, 1, 2, 3, 4, 6, 5] (by decide) rfl) hS hA rfl (fun H locs hP hD hS => ?_)
  have hP : va_P (dC, dI) vwCl (FW ad k F ++ TW ad k (ts T.C T.I T.O (fillL 0 0 13 T.G) T.S T.w T.h T.d)) H := hP.sub [0, 1, 2, 3, 4, 6, 5] rfl
  have hD : va_D A (FW ad k F ++ TW ad k (ts T.C T.I T.O (fillL 0 0 13 T.G) T.S T.w T.h T.d)) := hD.sub [0, 1, 2, 3, 4, 6, 5] (by decide) rfl
  refine W.eq (g2 := F0 m 8 ls []) rfl ?_
  refine lv_iconst (v := nI 0) hx hb dT_tell_8 (by decide) ?_
  refine lv_istore (lv' := [(5, .int (nI 0)), (0, .ref (ad 0)), (1, .ref (ad 6)), (2, .int (nI f0)), (3, .long b)]) hx hb dT_tell_9 hl (by decide) rfl (fun ls hl => ?_)
  have loop11 : ∀ (n : Nat) (j : Nat) (G : Nat → Int64) (H : Heap) (locs : List Loc) (ls : Array Slot), (j + n = T.w) → (teL T F f0 j n G = teL T F f0 0 T.w (fillL 0 0 13 T.G)) → va_P (dC, dI) vwCl (FW ad k F ++ TW ad k (ts T.C T.I T.O G T.S T.w T.h T.d)) H → va_D A (FW ad k F ++ TW ad k (ts T.C T.I T.O G T.S T.w T.h T.d)) → va_S A s.heap H locs → lv_has ls 6 [(5, .int (nI j)), (0, .ref (ad 0)), (1, .ref (ad 6)), (2, .int (nI f0)), (3, .long b)] → W p l e (headSpec wT_tell ({ frames := 2, cells := 0, slots := 0, locals := 48 })).room s m ([.ref (ad 0), .ref (ad 6), .int (nI f0), .long b] : List Value).toArray below meth c H locs 0 0 (MQ below (wQ none (dC, dI) vwCl (FW ad k F ++ TW ad k (ts T.C T.I T.O (teM T F f0 b) T.S T.w T.h T.d)) A) ([.ref (ad 0), .ref (ad 6), .int (nI f0), .long b] : List Value).toArray s 0 0 A) (F0 m 11 ls []) := by
    intro n
    induction n with
    | zero =>
      intro j G H locs ls hn hq hP hD hS hl
      refine lv_iload hx hb dT_tell_11 (lv_at hl 0 rfl) ?_
      refine lv_aload_n hx hb dT_tell_13 rfl (lv_at hl 1 rfl) ?_
      refine va_get (D := (dC, dI)) (ci := 0) (v := .int (nI T.w)) (C := RT) (T := FT) (N := 8) hx hb hta iT hown hK hP 1 rfl rfl 5 (by decide) (hta _ m_32) (fun _ h9 => h9) rfl dT_tell_14 ?_
      refine ni_ge (tgt := 39) hx hb dT_tell_17 (by decide) (by omega) (by omega) (fun c_1 => ?_) (fun c_1 => ?_)
      · refine lv_aload_n hx hb dT_tell_39 rfl (lv_at hl 1 rfl) ?_
        refine va_get (D := (dC, dI)) (ci := 0) (v := .ref (ad 4)) (C := RT) (T := FT) (N := 8) hx hb hta iT hown hK hP 1 rfl rfl 3 (by decide) (hta _ m_30) (fun _ h9 => h9) rfl dT_tell_40 ?_
        refine lv_iconst (v := nI 0) hx hb dT_tell_43 (by decide) ?_
        refine lv_dup2_11 hx hb dT_tell_44 rfl rfl ?_
        refine na_lald hx hb hK hP 5 4 rfl rfl (i := 0) (by omega) (by decide) dT_tell_45 ?_
        refine lv_aload_n hx hb dT_tell_46 rfl (lv_at hl 1 rfl) ?_
        refine va_get (D := (dC, dI)) (ci := 0) (v := .long T.d) (C := RT) (T := FT) (N := 8) hx hb hta iT hown hK hP 1 rfl rfl 7 (by decide) (hta _ m_36) (fun _ h9 => h9) rfl dT_tell_47 ?_
        refine lv_lload_n hx hb dT_tell_50 rfl (lv_at hl 4 rfl) ?_
        refine lv_lmul hx hb dT_tell_51 ?_
        refine lv_lsub hx hb dT_tell_52 ?_
        refine na_last hx hb hK hP hD hS 5 4 rfl rfl (i := 0) (x := (G 0) - (T.d * b)) (by omega) (by decide) dT_tell_53 (fun H locs hP hD hS => ?_)
        have hP : va_P (dC, dI) vwCl (FW ad k F ++ TW ad k (ts T.C T.I T.O (vp_updL G 0 ((G 0) - (T.d * b))) T.S T.w T.h T.d)) H := hP
        have hD : va_D A (FW ad k F ++ TW ad k (ts T.C T.I T.O (vp_updL G 0 ((G 0) - (T.d * b))) T.S T.w T.h T.d)) := hD
        exact W.vret hx hb hr (fun t ht hW => ⟨rfl, by rw [ht]; exact (by have hq3 : G = teL T F f0 0 T.w (fillL 0 0 13 T.G) := hq; rw [hq3] at hP; exact hP), hS.F ht⟩) hS.2.2 dT_tell_54
      · exfalso; omega
    | succ n ih =>
      intro j G H locs ls hn hq hP hD hS hl
      refine lv_iload hx hb dT_tell_11 (lv_at hl 0 rfl) ?_
      refine lv_aload_n hx hb dT_tell_13 rfl (lv_at hl 1 rfl) ?_
      refine va_get (D := (dC, dI)) (ci := 0) (v := .int (nI T.w)) (C := RT) (T := FT) (N := 8) hx hb hta iT hown hK hP 1 rfl rfl 5 (by decide) (hta _ m_32) (fun _ h9 => h9) rfl dT_tell_14 ?_
      refine ni_ge (tgt := 39) hx hb dT_tell_17 (by decide) (by omega) (by omega) (fun c_2 => ?_) (fun c_2 => ?_)
      · exfalso; omega
      · refine lv_aload_n hx hb dT_tell_20 rfl (lv_at hl 1 rfl) ?_
        refine lv_iload hx hb dT_tell_21 (lv_at hl 0 rfl) ?_
        refine lv_aload_n hx hb dT_tell_23 rfl (lv_at hl 2 rfl) ?_
        refine lv_iload_n hx hb dT_tell_24 rfl (lv_at hl 3 rfl) ?_
        refine lv_iload hx hb dT_tell_25 (lv_at hl 0 rfl) ?_
        refine lv_iadd hx hb dT_tell_27 ?_
        refine st_i (y := nI (f0 + j)) (nI_add _ _) ?_
        refine na_iald hx hb hK hP 0 0 rfl rfl (i := (f0 + j)) (by omega) (by decide) dT_tell_28 ?_
        refine lv_i2l (v := (F (f0 + j)).toInt64) hx hb dT_tell_29 rfl ?_
        refine wr_call (X := FW ad k F) (va_runV (As := [.int (nI j), .long ((F (f0 + j)).toInt64)]) (rest := []) ⟨hx, hb, hml, hown, hta⟩ (c_T_tellColumn l dC dI ad k (ts T.C T.I T.O G T.S T.w T.h T.d) H.size (nI j) ((F (f0 + j)).toInt64) (by first | omega | exact hw | exact hh) (by first | omega | exact hw | exact hh)) (cwV 2 hta (gV m_378 m_380 mp_24 m_2 m_381) rfl rfl rfl (by decide +kernel) ⟨Nat.le_of_ble_eq_true rfl, Nat.le_of_ble_eq_true rfl⟩) (wr_V xT_ok trivial (hK.sub [1, 2, 3, 4, 5] rfl) (hP.sub [1, 2, 3, 4, 5, 6] rfl) (hD.sub [1, 2, 3, 4, 5, 6] (by decide) rfl) (ci := 0) (q0 := 0) rfl rfl) rfl rfl hl.1 rfl (lv_room (Nat.le_of_ble_eq_true rfl)) dT_tell_30 ⟨Nat.zero_le _, Nat.zero_le _⟩) hP hD hS hA rfl (fun H locs hP hD hS => ?_)
        have hP : va_P (dC, dI) vwCl (FW ad k F ++ TW ad k (ts T.C T.I T.O (tcM (ts T.C T.I T.O G T.S T.w T.h T.d) (nI j) ((F (f0 + j)).toInt64) G) T.S T.w T.h T.d)) H := hP
        have hD : va_D A (FW ad k F ++ TW ad k (ts T.C T.I T.O (tcM (ts T.C T.I T.O G T.S T.w T.h T.d) (nI j) ((F (f0 + j)).toInt64) G) T.S T.w T.h T.d)) := hD
        refine W.eq (g2 := F0 m 33 ls []) rfl ?_
        refine lv_iinc (v := nI (j + 1)) (lv' := [(5, .int (nI (j + 1))), (0, .ref (ad 0)), (1, .ref (ad 6)), (2, .int (nI f0)), (3, .long b)]) hx hb dT_tell_33 hl (k := 0) rfl (nI_add j 1) (by decide) rfl (fun ls hl => ?_)
        refine lv_goto (tgt := 11) hx hb dT_tell_36 (by decide) ?_
        exact ih (j + 1) (tcM (ts T.C T.I T.O G T.S T.w T.h T.d) (nI j) ((F (f0 + j)).toInt64) G) H locs ls (by omega) (by rw [← hq]; rfl) hP hD hS (lv_sub hl [0, 1, 2, 3, 4] rfl)
  exact loop11 T.w 0 (fillL 0 0 13 T.G) H locs ls (by omega) rfl hP hD hS (lv_sub hl [0, 1, 2, 3, 4] rfl)
