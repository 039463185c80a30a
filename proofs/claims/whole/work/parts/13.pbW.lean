set_option maxHeartbeats 4000000 in
set_option maxRecDepth 100000 in
theorem c_P_addRow (l : Launch) (dC : Nat → ClassId) (dI : Nat → Nat → Nat) (ad : Nat → Nat) (k : Nat → ClassId) (P : PS) (F : Nat → Int32) (T : TS) (sz : Nat) (kd wk : Int32) (b : Int64) (hro : P.rows < 12) : Met l yP_addRow wP_addRow ({ frames := 0, cells := 0, slots := 0, locals := 0 }) (wPc [.ref (ad 7), .int kd, .int wk, .long b] sz (dC, dI) vwCl (PW ad k P ++ (FW ad k F ++ TW ad k T)) (PK k ++ (FK k ++ TK k)) nW) (wQ (some (.int (nI P.rows))) (dC, dI) vwCl (PW ad k (ps (upd P.K P.rows kd) (upd P.V P.rows wk) (vp_updL P.B P.rows b) P.L P.wk (P.rows + 1) P.rin P.stp P.run P.lat) ++ (FW ad k F ++ TW ad k T)) (va_A (PW ad k P ++ (FW ad k F ++ TW ad k T)) sz)) 0 0 (va_A (PW ad k P ++ (FW ad k F ++ TW ad k T)) sz) := by
  refine Met.ofW (cc := bP_addRow) (maxL := 6) (ret := (some .int)) (by decide) rfl ?_
  intro p e s m args below meth c s₁ B hml hv
  obtain ⟨rfl, hsz, hP, hK, hD0, hX⟩ := hv
  have hx := B.exec
  have hb := B.bytes
  have hr := B.returns
  have hts := atoms_spec (ws := wP_addRow) B.pre
  have hta : ∀ w ∈ AW, w.before _ s = true := fun w h => hts w (List.mem_cons_of_mem _ h)
  have hown : s.vm.findClass RP = some m.cls := findClass_of_methodNamed B.named
  have hlocks := B.notSynchronized
  subst hsz
  have hD := hD0.self (sz := s.heap.size)
  generalize hAe : va_A (PW ad k P ++ (FW ad k F ++ TW ad k T)) s.heap.size = A at hD ⊢
  have hA : ∀ q : Nat, s.heap.size ≤ q → A q := fun q h => by rw [← hAe]; exact Or.inr h
  have hS : va_S A s.heap s.heap [] := va_S.rf
  have hl := lv_entry ([.ref (ad 7), .int kd, .int wk, .long b]) (n := 6) (Nat.le_of_ble_eq_true rfl)
  rw [lg_entry_eq]
  generalize (lg_sl ([.ref (ad 7), .int kd, .int wk, .long b]) ++ List.replicate (6 - (lg_sl ([.ref (ad 7), .int kd, .int wk, .long b])).length) Slot.unset).toArray = ls at hl ⊢
  have hl : lv_has ls 6 [(0, .ref (ad 7)), (1, .int kd), (2, .int wk), (3, .long b)] := hl
  refine lv_aload_n hx hb dP_addRow_0 rfl (lv_at hl 0 rfl) ?_
  refine va_get (D := (dC, dI)) (ci := 1) (v := .int (nI P.rows)) (C := RP) (T := FP) (N := 12) hx hb hta iP hown hK hP 0 rfl rfl 7 (by decide) (hta _ m_70) (fun _ h9 => h9) rfl dP_addRow_1 ?_
  refine lv_istore (lv' := [(5, .int (nI P.rows)), (0, .ref (ad 7)), (1, .int kd), (2, .int wk), (3, .long b)]) hx hb dP_addRow_4 hl (by decide) rfl (fun ls hl => ?_)
  refine lv_aload_n hx hb dP_addRow_6 rfl (lv_at hl 1 rfl) ?_
  refine va_get (D := (dC, dI)) (ci := 1) (v := .ref (ad 8)) (C := RP) (T := FP) (N := 12) hx hb hta iP hown hK hP 0 rfl rfl 1 (by decide) (hta _ m_64) (fun _ h9 => h9) rfl dP_addRow_7 ?_
  refine lv_iload hx hb dP_addRow_10 (lv_at hl 0 rfl) ?_
  refine lv_iload_n hx hb dP_addRow_12 rfl (lv_at hl 2 rfl) ?_
  refine na_iast hx hb hK hP hD hS 1 0 rfl rfl (i := P.rows) (x := kd) (by omega) (by decide) dP_addRow_13 (fun H locs hP hD hS => ?_)
  have hP : va_P (dC, dI) vwCl (PW ad k (ps (upd P.K P.rows kd) P.V P.B P.L P.wk P.rows P.rin P.stp P.run P.lat) ++ (FW ad k F ++ TW ad k T)) H := hP
  have hD : va_D A (PW ad k (ps (upd P.K P.rows kd) P.V P.B P.L P.wk P.rows P.rin P.stp P.run P.lat) ++ (FW ad k F ++ TW ad k T)) := hD
  refine lv_aload_n hx hb dP_addRow_14 rfl (lv_at hl 1 rfl) ?_
  refine va_get (D := (dC, dI)) (ci := 1) (v := .ref (ad 9)) (C := RP) (T := FP) (N := 12) hx hb hta iP hown hK hP 0 rfl rfl 2 (by decide) (hta _ m_65) (fun _ h9 => h9) rfl dP_addRow_15 ?_
  refine lv_iload hx hb dP_addRow_18 (lv_at hl 0 rfl) ?_
  refine lv_iload_n hx hb dP_addRow_20 rfl (lv_at hl 3 rfl) ?_
  refine na_iast hx hb hK hP hD hS 2 1 rfl rfl (i := P.rows) (x := wk) (by omega) (by decide) dP_addRow_21 (fun H locs hP hD hS => ?_)
  have hP : va_P (dC, dI) vwCl (PW ad k (ps (upd P.K P.rows kd) (upd P.V P.rows wk) P.B P.L P.wk P.rows P.rin P.stp P.run P.lat) ++ (FW ad k F ++ TW ad k T)) H := hP
  have hD : va_D A (PW ad k (ps (upd P.K P.rows kd) (upd P.V P.rows wk) P.B P.L P.wk P.rows P.rin P.stp P.run P.lat) ++ (FW ad k F ++ TW ad k T)) := hD
  refine lv_aload_n hx hb dP_addRow_22 rfl (lv_at hl 1 rfl) ?_
  refine va_get (D := (dC, dI)) (ci := 1) (v := .ref (ad 10)) (C := RP) (T := FP) (N := 12) hx hb hta iP hown hK hP 0 rfl rfl 3 (by decide) (hta _ m_66) (fun _ h9 => h9) rfl dP_addRow_23 ?_
  refine lv_iload hx hb dP_addRow_26 (lv_at hl 0 rfl) ?_
  refine lv_lload_n hx hb dP_addRow_28 rfl (lv_at hl 4 rfl) ?_
  refine na_last hx hb hK hP hD hS 3 2 rfl rfl (i := P.rows) (x := b) (by omega) (by decide) dP_addRow_29 (fun H locs hP hD hS => ?_)
  have hP : va_P (dC, dI) vwCl (PW ad k (ps (upd P.K P.rows kd) (upd P.V P.rows wk) (vp_updL P.B P.rows b) P.L P.wk P.rows P.rin P.stp P.run P.lat) ++ (FW ad k F ++ TW ad k T)) H := hP
  have hD : va_D A (PW ad k (ps (upd P.K P.rows kd) (upd P.V P.rows wk) (vp_updL P.B P.rows b) P.L P.wk P.rows P.rin P.stp P.run P.lat) ++ (FW ad k F ++ TW ad k T)) := hD
  refine lv_aload_n hx hb dP_addRow_30 rfl (lv_at hl 1 rfl) ?_
  refine lv_dup hx hb dP_addRow_31 rfl ?_
  refine va_get (D := (dC, dI)) (ci := 1) (v := .int (nI P.rows)) (C := RP) (T := FP) (N := 12) hx hb hta iP hown hK hP 0 rfl rfl 7 (by decide) (hta _ m_70) (fun _ h9 => h9) rfl dP_addRow_32 ?_
  refine lv_iconst (v := nI 1) hx hb dP_addRow_35 (by decide) ?_
  refine lv_iadd hx hb dP_addRow_36 ?_
  refine st_i (y := nI (P.rows + 1)) (nI_add _ _) ?_
  refine va_put (D := (dC, dI)) (ci := 1) (v := .int (nI (P.rows + 1))) (ty := .int) (C := RP) (T := FP) (N := 12) hx hb hta iP tP tP_ok nP hown hK hP hD hS 0 rfl rfl 7 (by decide) (hta _ m_70) (fun _ h9 => h9) rfl (by decide +kernel) rfl rfl (Nat.le_of_ble_eq_true rfl) dP_addRow_37 (fun H locs hP hD hS => ?_)
  have hP : va_P (dC, dI) vwCl (PW ad k (ps (upd P.K P.rows kd) (upd P.V P.rows wk) (vp_updL P.B P.rows b) P.L P.wk (P.rows + 1) P.rin P.stp P.run P.lat) ++ (FW ad k F ++ TW ad k T)) H := hP
  have hD : va_D A (PW ad k (ps (upd P.K P.rows kd) (upd P.V P.rows wk) (vp_updL P.B P.rows b) P.L P.wk (P.rows + 1) P.rin P.stp P.run P.lat) ++ (FW ad k F ++ TW ad k T)) := hD
  refine lv_iload hx hb dP_addRow_40 (lv_at hl 0 rfl) ?_
  exact W.iret (v := nI P.rows) hx hb hr (fun t ht hW => ⟨rfl, by rw [ht]; exact hP, hS.F ht⟩) hS.2.2 dP_addRow_42

set_option maxHeartbeats 4000000 in
set_option maxRecDepth 100000 in
theorem c_P_bringRow (l : Launch) (dC : Nat → ClassId) (dI : Nat → Nat → Nat) (ad : Nat → Nat) (k : Nat → ClassId) (P : PS) (F : Nat → Int32) (T : TS) (sz : Nat) (r : Nat) (hw : T.w ≤ 12) (hh : T.h ≤ 24) (hr9 : r < 12) : Met l yP_bringRow wP_bringRow ({ frames := 3, cells := 0, slots := 0, locals := 73 }) (wPc [.ref (ad 7), .int (nI r)] sz (dC, dI) vwCl (PW ad k P ++ (FW ad k F ++ TW ad k T)) (PK k ++ (FK k ++ TK k)) nW) (wQ (some (.int (bI (brM P.K P.B P.L F T r).1))) (dC, dI) vwCl (PW ad k (ps P.K P.V P.B ((brM P.K P.B P.L F T r).2.2) P.wk P.rows P.rin P.stp P.run P.lat) ++ (FW ad k F ++ TW ad k ((brM P.K P.B P.L F T r).2.1))) (va_A (PW ad k P ++ (FW ad k F ++ TW ad k T)) sz)) 0 0 (va_A (PW ad k P ++ (FW ad k F ++ TW ad k T)) sz) := by
  refine Met.ofW (cc := bP_bringRow) (maxL := 3) (ret := (some .boolean)) (by decide) rfl ?_
  intro p e s m args below meth c s₁ B hml hv
  obtain ⟨rfl, hsz, hP, hK, hD0, hX⟩ := hv
  have hx := B.exec
  have hb := B.bytes
  have hr := B.returns
  have hts := atoms_spec (ws := wP_bringRow) B.pre
  have hta : ∀ w ∈ AW, w.before _ s = true := fun w h => hts w (List.mem_cons_of_mem _ h)
  have hown : s.vm.findClass RP = some m.cls := findClass_of_methodNamed B.named
  have hlocks := B.notSynchronized
  subst hsz
  have hD := hD0.self (sz := s.heap.size)
  generalize hAe : va_A (PW ad k P ++ (FW ad k F ++ TW ad k T)) s.heap.size = A at hD ⊢
  have hA : ∀ q : Nat, s.heap.size ≤ q → A q := fun q h => by rw [← hAe]; exact Or.inr h
  have hS : va_S A s.heap s.heap [] := va_S.rf
  have hl := lv_entry ([.ref (ad 7), .int (nI r)]) (n := 3) (Nat.le_of_ble_eq_true rfl)
  rw [lg_entry_eq]
  generalize (lg_sl ([.ref (ad 7), .int (nI r)]) ++ List.replicate (3 - (lg_sl ([.ref (ad 7), .int (nI r)])).length) Slot.unset).toArray = ls at hl ⊢
  have hl : lv_has ls 3 [(0, .ref (ad 7)), (1, .int (nI r))] := hl
  refine lv_aload_n hx hb dP_bringRow_0 rfl (lv_at hl 0 rfl) ?_
  refine va_get (D := (dC, dI)) (ci := 1) (v := .ref (ad 0)) (C := RP) (T := FP) (N := 12) hx hb hta iP hown hK hP 0 rfl rfl 6 (by decide) (hta _ m_69) (fun _ h9 => h9) rfl dP_bringRow_1 ?_
  refine lv_aload_n hx hb dP_bringRow_4 rfl (lv_at hl 0 rfl) ?_
  refine va_get (D := (dC, dI)) (ci := 1) (v := .ref (ad 6)) (C := RP) (T := FP) (N := 12) hx hb hta iP hown hK hP 0 rfl rfl 4 (by decide) (hta _ m_67) (fun _ h9 => h9) rfl dP_bringRow_5 ?_
  refine lv_iload_n hx hb dP_bringRow_8 rfl (lv_at hl 1 rfl) ?_
  refine lv_iconst (v := nI 0) hx hb dP_bringRow_9 (by decide) ?_
  refine rd_call (va_runS (As := [.int (nI r), .int (nI 0)]) (rest := [.ref (ad 6), .ref (ad 0)]) ⟨hx, hb, hml, hown, hta⟩ (c_P_factorPlace l dC dI ad k r 0) (cwS 2 hta (gS m_108 m_109 m_1 m_110) rfl rfl rfl (by decide +kernel) ⟨Nat.le_of_ble_eq_true rfl, Nat.le_of_ble_eq_true rfl⟩) (rd_S xT_ok trivial (hK.sub [] rfl) va_P_nil) rfl rfl hl.1 rfl (lv_room (Nat.le_of_ble_eq_true rfl)) dP_bringRow_10 ⟨Nat.zero_le _, Nat.zero_le _⟩) ?_
  refine W.eq (g2 := F0 m 13 ls [.int (nI (r * 12 + 0)), .ref (ad 6), .ref (ad 0)]) rfl ?_
  refine lv_aload_n hx hb dP_bringRow_13 rfl (lv_at hl 0 rfl) ?_
  refine va_get (D := (dC, dI)) (ci := 1) (v := .ref (ad 10)) (C := RP) (T := FP) (N := 12) hx hb hta iP hown hK hP 0 rfl rfl 3 (by decide) (hta _ m_66) (fun _ h9 => h9) rfl dP_bringRow_14 ?_
  refine lv_iload_n hx hb dP_bringRow_17 rfl (lv_at hl 1 rfl) ?_
  refine na_lald hx hb hK hP 3 2 rfl rfl (i := r) (by omega) (by decide) dP_bringRow_18 ?_
  refine wr_call (X := PW ad k P) (va_runVN (As := [.ref (ad 6), .int (nI (r * 12 + 0)), .long (P.B r)]) (rest := []) ⟨hx, hb, hml, hown, hta⟩ (c_T_tell l dC dI ad k F T s.heap.size (r * 12 + 0) (P.B r) (by first | omega | exact hw | exact hh) (by first | omega | exact hw | exact hh) (by first | omega | exact hw | exact hh)) ⟨(va_cnB 3 hta (gC m_374) rfl rfl rfl (hX _ nw_10) (hta _ m_2) (by decide +kernel) ⟨Nat.le_of_ble_eq_true rfl, Nat.le_of_ble_eq_true rfl⟩), hta _ m_373, hta _ mp_23⟩ (wr_V xT_ok trivial (hK.sub [4, 5, 6, 7, 8, 9] rfl) (hP.sub [5, 6, 7, 8, 9, 10, 11] rfl) (hD.sub [5, 6, 7, 8, 9, 10, 11] (by decide) rfl) (ci := 0) (q0 := 1) rfl rfl) rfl rfl hl.1 rfl (lv_room (Nat.le_of_ble_eq_true rfl)) dP_bringRow_19 ⟨Nat.zero_le _, Nat.zero_le _⟩) hP hD hS hA rfl (fun H locs hP hD hS => ?_)
  have hP : va_P (dC, dI) vwCl (PW ad k P ++ (FW ad k F ++ TW ad k (ts T.C T.I T.O (teM T F (r * 12 + 0) (P.B r)) T.S T.w T.h T.d))) H := hP
  have hD : va_D A (PW ad k P ++ (FW ad k F ++ TW ad k (ts T.C T.I T.O (teM T F (r * 12 + 0) (P.B r)) T.S T.w T.h T.d))) := hD
  refine W.eq (g2 := F0 m 22 ls []) rfl ?_
  refine lv_aload_n hx hb dP_bringRow_22 rfl (lv_at hl 0 rfl) ?_
  refine va_get (D := (dC, dI)) (ci := 1) (v := .ref (ad 0)) (C := RP) (T := FP) (N := 12) hx hb hta iP hown hK hP 0 rfl rfl 6 (by decide) (hta _ m_69) (fun _ h9 => h9) rfl dP_bringRow_23 ?_
  refine rd_call (va_runVN (As := []) (rest := []) ⟨hx, hb, hml, hown, hta⟩ (c_T_toldFits l dC dI ad k (ts T.C T.I T.O (teM T F (r * 12 + 0) (P.B r)) T.S T.w T.h T.d) (by first | omega | exact hw | exact hh)) ⟨(va_cnB 0 hta (gC m_385) rfl rfl rfl (hX _ nw_11) (hta _ m_2) (by decide +kernel) ⟨Nat.le_of_ble_eq_true rfl, Nat.le_of_ble_eq_true rfl⟩), hta _ m_384, hta _ mp_25⟩ (rd_V xT_ok trivial (hK.sub [5, 6, 7, 8, 9] rfl) (hP.sub [6, 7, 8, 9, 10, 11] rfl) (ci := 0) (q0 := 0) rfl rfl) rfl rfl hl.1 rfl (lv_room (Nat.le_of_ble_eq_true rfl)) dP_bringRow_26 ⟨Nat.zero_le _, Nat.zero_le _⟩) ?_
  refine W.eq (g2 := F0 m 29 ls [.int (bI (allF (teM T F (r * 12 + 0) (P.B r)) 0 (T.w + 1)))]) rfl ?_
  refine lb_ne (tgt := 34) hx hb dP_bringRow_29 (by decide) (fun hc => ?_) (fun hc => ?_)
  · have e9 : brM P.K P.B P.L F T r = (true, brL P.K r 0 (lnM P.K r) (teT T F (r * 12 + 0) (P.B r)), upd P.L r (nI T.h)) := if_pos hc
    refine lv_aload_n hx hb dP_bringRow_34 rfl (lv_at hl 0 rfl) ?_
    refine va_get (D := (dC, dI)) (ci := 1) (v := .ref (ad 11)) (C := RP) (T := FP) (N := 12) hx hb hta iP hown hK hP 0 rfl rfl 5 (by decide) (hta _ m_68) (fun _ h9 => h9) rfl dP_bringRow_35 ?_
    refine lv_iload_n hx hb dP_bringRow_38 rfl (lv_at hl 1 rfl) ?_
    refine lv_aload_n hx hb dP_bringRow_39 rfl (lv_at hl 0 rfl) ?_
    refine va_get (D := (dC, dI)) (ci := 1) (v := .ref (ad 0)) (C := RP) (T := FP) (N := 12) hx hb hta iP hown hK hP 0 rfl rfl 6 (by decide) (hta _ m_69) (fun _ h9 => h9) rfl dP_bringRow_40 ?_
    refine va_getN (D := (dC, dI)) (ci := 0) (v := .int (nI T.h)) (C := RT) (T := FT) (N := 8) hx hb hta iT hown hK hP 6 rfl rfl 6 (by decide) (va_Nw.use rfl (hX _ nw_3)) (fun _ h9 => h9) rfl dP_bringRow_43 ?_
    refine na_iast hx hb hK hP hD hS 4 3 rfl rfl (i := r) (x := nI T.h) (by omega) (by decide) dP_bringRow_46 (fun H locs hP hD hS => ?_)
    have hP : va_P (dC, dI) vwCl (PW ad k (ps P.K P.V P.B (upd P.L r (nI T.h)) P.wk P.rows P.rin P.stp P.run P.lat) ++ (FW ad k F ++ TW ad k (ts T.C T.I T.O (teM T F (r * 12 + 0) (P.B r)) T.S T.w T.h T.d))) H := hP
    have hD : va_D A (PW ad k (ps P.K P.V P.B (upd P.L r (nI T.h)) P.wk P.rows P.rin P.stp P.run P.lat) ++ (FW ad k F ++ TW ad k (ts T.C T.I T.O (teM T F (r * 12 + 0) (P.B r)) T.S T.w T.h T.d))) := hD
    refine lv_iconst (v := nI 0) hx hb dP_bringRow_47 (by decide) ?_
    refine lv_istore_n (lv' := [(2, .int (nI 0)), (0, .ref (ad 7)), (1, .int (nI r))]) hx hb dP_bringRow_48 rfl hl (by decide) rfl (fun ls hl => ?_)
    have loop49 : ∀ (n : Nat) (j : Nat) (T2 : TS) (H : Heap) (locs : List Loc) (ls : Array Slot), (j + n = lnM P.K r) → (T2.w = T.w) → (T2.h ≤ 24) → (brL P.K r j n T2 = brL P.K r 0 (lnM P.K r) (teT T F (r * 12 + 0) (P.B r))) → va_P (dC, dI) vwCl (PW ad k (ps P.K P.V P.B (upd P.L r (nI T.h)) P.wk P.rows P.rin P.stp P.run P.lat) ++ (FW ad k F ++ TW ad k T2)) H → va_D A (PW ad k (ps P.K P.V P.B (upd P.L r (nI T.h)) P.wk P.rows P.rin P.stp P.run P.lat) ++ (FW ad k F ++ TW ad k T2)) → va_S A s.heap H locs → lv_has ls 3 [(2, .int (nI j)), (0, .ref (ad 7)), (1, .int (nI r))] → W p l e (headSpec wP_bringRow ({ frames := 3, cells := 0, slots := 0, locals := 73 })).room s m ([.ref (ad 7), .int (nI r)] : List Value).toArray below meth c H locs 0 0 (MQ below (wQ (some (.int (bI (brM P.K P.B P.L F T r).1))) (dC, dI) vwCl (PW ad k (ps P.K P.V P.B ((brM P.K P.B P.L F T r).2.2) P.wk P.rows P.rin P.stp P.run P.lat) ++ (FW ad k F ++ TW ad k ((brM P.K P.B P.L F T r).2.1))) A) ([.ref (ad 7), .int (nI r)] : List Value).toArray s 0 0 A) (F0 m 49 ls []) := by
      intro n
      induction n with
      | zero =>
        intro j T2 H locs ls hn hw2 hh2 hq hP hD hS hl
        have hln := lnM_le P.K r
        refine lv_iload_n hx hb dP_bringRow_49 rfl (lv_at hl 0 rfl) ?_
        refine lv_aload_n hx hb dP_bringRow_50 rfl (lv_at hl 1 rfl) ?_
        refine lv_iload_n hx hb dP_bringRow_51 rfl (lv_at hl 2 rfl) ?_
        refine rd_call (va_runV (As := [.int (nI r)]) (rest := [.int (nI j)]) ⟨hx, hb, hml, hown, hta⟩ (c_P_linesOf l dC dI ad k (ps P.K P.V P.B (upd P.L r (nI T.h)) P.wk P.rows P.rin P.stp P.run P.lat) F T2 r (by first | omega | exact hw | exact hh)) (cwV 1 hta (gV m_326 m_328 mp_15 m_1 m_329) rfl rfl rfl (by decide +kernel) ⟨Nat.le_of_ble_eq_true rfl, Nat.le_of_ble_eq_true rfl⟩) (rd_V nW_ok hX hK hP (ci := 1) (q0 := 0) rfl rfl) rfl rfl hl.1 rfl (lv_room (Nat.le_of_ble_eq_true rfl)) dP_bringRow_52 ⟨Nat.zero_le _, Nat.zero_le _⟩) ?_
        refine W.eq (g2 := F0 m 55 ls [.int (nI (lnM P.K r)), .int (nI j)]) rfl ?_
        refine ni_ge (tgt := 77) hx hb dP_bringRow_55 (by decide) (by omega) (by omega) (fun c_1 => ?_) (fun c_1 => ?_)
        · refine lv_iconst (v := 1) hx hb dP_bringRow_77 (by decide) ?_
          exact W.zret (v := 1) hx hb hr (rfl) (fun t ht hW => ⟨congrArg (fun z => Outcome.returned (some (.int z))) (by rw [e9]; rfl), by rw [ht]; exact (by have hq3 : T2 = brL P.K r 0 (lnM P.K r) (teT T F (r * 12 + 0) (P.B r)) := hq; rw [hq3] at hP; rw [e9]; exact hP), hS.F ht⟩) hS.2.2 dP_bringRow_78
        · exfalso; omega
      | succ n ih =>
        intro j T2 H locs ls hn hw2 hh2 hq hP hD hS hl
        have hln := lnM_le P.K r
        refine lv_iload_n hx hb dP_bringRow_49 rfl (lv_at hl 0 rfl) ?_
        refine lv_aload_n hx hb dP_bringRow_50 rfl (lv_at hl 1 rfl) ?_
        refine lv_iload_n hx hb dP_bringRow_51 rfl (lv_at hl 2 rfl) ?_
        refine rd_call (va_runV (As := [.int (nI r)]) (rest := [.int (nI j)]) ⟨hx, hb, hml, hown, hta⟩ (c_P_linesOf l dC dI ad k (ps P.K P.V P.B (upd P.L r (nI T.h)) P.wk P.rows P.rin P.stp P.run P.lat) F T2 r (by first | omega | exact hw | exact hh)) (cwV 1 hta (gV m_326 m_328 mp_15 m_1 m_329) rfl rfl rfl (by decide +kernel) ⟨Nat.le_of_ble_eq_true rfl, Nat.le_of_ble_eq_true rfl⟩) (rd_V nW_ok hX hK hP (ci := 1) (q0 := 0) rfl rfl) rfl rfl hl.1 rfl (lv_room (Nat.le_of_ble_eq_true rfl)) dP_bringRow_52 ⟨Nat.zero_le _, Nat.zero_le _⟩) ?_
        refine W.eq (g2 := F0 m 55 ls [.int (nI (lnM P.K r)), .int (nI j)]) rfl ?_
        refine ni_ge (tgt := 77) hx hb dP_bringRow_55 (by decide) (by omega) (by omega) (fun c_2 => ?_) (fun c_2 => ?_)
        · exfalso; omega
        · refine lv_aload_n hx hb dP_bringRow_58 rfl (lv_at hl 1 rfl) ?_
          refine va_get (D := (dC, dI)) (ci := 1) (v := .ref (ad 0)) (C := RP) (T := FP) (N := 12) hx hb hta iP hown hK hP 0 rfl rfl 6 (by decide) (hta _ m_69) (fun _ h9 => h9) rfl dP_bringRow_59 ?_
          refine lv_aload_n hx hb dP_bringRow_62 rfl (lv_at hl 1 rfl) ?_
          refine lv_iload_n hx hb dP_bringRow_63 rfl (lv_at hl 2 rfl) ?_
          refine lv_iload_n hx hb dP_bringRow_64 rfl (lv_at hl 0 rfl) ?_
          refine rd_call (va_runV (As := [.int (nI r), .int (nI j)]) (rest := [.ref (ad 0)]) ⟨hx, hb, hml, hown, hta⟩ (c_P_signOf l dC dI ad k (ps P.K P.V P.B (upd P.L r (nI T.h)) P.wk P.rows P.rin P.stp P.run P.lat) F T2 r j (by first | omega | exact hw | exact hh) (by first | omega | exact hw | exact hh)) (cwV 2 hta (gV m_334 m_336 mp_17 m_1 m_337) rfl rfl rfl (by decide +kernel) ⟨Nat.le_of_ble_eq_true rfl, Nat.le_of_ble_eq_true rfl⟩) (rd_V nW_ok hX hK hP (ci := 1) (q0 := 0) rfl rfl) rfl rfl hl.1 rfl (lv_room (Nat.le_of_ble_eq_true rfl)) dP_bringRow_65 ⟨Nat.zero_le _, Nat.zero_le _⟩) ?_
          refine W.eq (g2 := F0 m 68 ls [.int (sgM P.K r j), .ref (ad 0)]) rfl ?_
          refine wr_call (X := PW ad k (ps P.K P.V P.B (upd P.L r (nI T.h)) P.wk P.rows P.rin P.stp P.run P.lat) ++ FW ad k F) (va_runVN (As := [.int (sgM P.K r j)]) (rest := []) ⟨hx, hb, hml, hown, hta⟩ (c_T_bringTold l dC dI ad k T2 H.size (sgM P.K r j) (by first | omega | exact hw | exact hh) (by first | omega | exact hw | exact hh)) ⟨(va_cnB 1 hta (gC m_389) rfl rfl rfl (hX _ nw_12) (hta _ m_2) (by decide +kernel) ⟨Nat.le_of_ble_eq_true rfl, Nat.le_of_ble_eq_true rfl⟩), hta _ m_388, hta _ mp_26⟩ (wr_V xT_ok trivial (hK.sub [5, 6, 7, 8, 9] rfl) (hP.sub [6, 7, 8, 9, 10, 11] rfl) (hD.sub [6, 7, 8, 9, 10, 11] (by decide) rfl) (ci := 0) (q0 := 0) rfl rfl) rfl rfl hl.1 rfl (lv_room (Nat.le_of_ble_eq_true rfl)) dP_bringRow_68 ⟨Nat.zero_le _, Nat.zero_le _⟩) hP hD hS hA rfl (fun H locs hP hD hS => ?_)
          have hP : va_P (dC, dI) vwCl (PW ad k (ps P.K P.V P.B (upd P.L r (nI T.h)) P.wk P.rows P.rin P.stp P.run P.lat) ++ (FW ad k F ++ TW ad k (btM T2 (sgM P.K r j)))) H := hP
          have hD : va_D A (PW ad k (ps P.K P.V P.B (upd P.L r (nI T.h)) P.wk P.rows P.rin P.stp P.run P.lat) ++ (FW ad k F ++ TW ad k (btM T2 (sgM P.K r j)))) := hD
          refine W.eq (g2 := F0 m 71 ls []) rfl ?_
          refine lv_iinc (v := nI (j + 1)) (lv' := [(2, .int (nI (j + 1))), (0, .ref (ad 7)), (1, .int (nI r))]) hx hb dP_bringRow_71 hl (k := 0) rfl (nI_add j 1) (by decide) rfl (fun ls hl => ?_)
          refine lv_goto (tgt := 49) hx hb dP_bringRow_74 (by decide) ?_
          exact ih (j + 1) (btM T2 (sgM P.K r j)) H locs ls (by omega) (by rw [btM_w]; exact hw2) (btM_h hh2) (by rw [← hq]; rfl) hP hD hS (lv_sub hl [0, 1, 2] rfl)
    exact loop49 (lnM P.K r) 0 (teT T F (r * 12 + 0) (P.B r)) H locs ls (by omega) rfl hh rfl hP hD hS (lv_sub hl [0, 1, 2] rfl)
  · have e9 : brM P.K P.B P.L F T r = (false, teT T F (r * 12 + 0) (P.B r), P.L) := if_neg (by rw [show allF (teT T F (r * 12 + 0) (P.B r)).G 0 (T.w + 1) = false from hc]; decide)
    refine lv_iconst (v := 0) hx hb dP_bringRow_32 (by decide) ?_
    exact W.zret (v := 0) hx hb hr (rfl) (fun t ht hW => ⟨congrArg (fun z => Outcome.returned (some (.int z))) (by rw [e9]; rfl), by rw [ht]; exact (by rw [e9]; exact hP), hS.F ht⟩) hS.2.2 dP_bringRow_33

set_option maxHeartbeats 4000000 in
set_option maxRecDepth 100000 in
theorem c_P_bringRows (l : Launch) (dC : Nat → ClassId) (dI : Nat → Nat → Nat) (ad : Nat → Nat) (k : Nat → ClassId) (P : PS) (F : Nat → Int32) (T : TS) (sz : Nat)  (hw : T.w ≤ 12) (hh : T.h ≤ 24) (hro : P.rows ≤ 12) (hri : P.rin ≤ P.rows) : Met l yP_bringRows wP_bringRows ({ frames := 4, cells := 0, slots := 0, locals := 95 }) (wPc [.ref (ad 7)] sz (dC, dI) vwCl (PW ad k P ++ (FW ad k F ++ TW ad k T)) (PK k ++ (FK k ++ TK k)) nW) (wQ (some (.int (bI (bwL P.K P.B F P.rin (P.rows - P.rin) T P.L P.rin).1))) (dC, dI) vwCl (PW ad k (ps P.K P.V P.B ((bwL P.K P.B F P.rin (P.rows - P.rin) T P.L P.rin).2.2.1) P.wk P.rows ((bwL P.K P.B F P.rin (P.rows - P.rin) T P.L P.rin).2.2.2) P.stp P.run P.lat) ++ (FW ad k F ++ TW ad k ((bwL P.K P.B F P.rin (P.rows - P.rin) T P.L P.rin).2.1))) (va_A (PW ad k P ++ (FW ad k F ++ TW ad k T)) sz)) 0 0 (va_A (PW ad k P ++ (FW ad k F ++ TW ad k T)) sz) := by
  refine Met.ofW (cc := bP_bringRows) (maxL := 2) (ret := (some .boolean)) (by decide) rfl ?_
  intro p e s m args below meth c s₁ B hml hv
  obtain ⟨rfl, hsz, hP, hK, hD0, hX⟩ := hv
  have hx := B.exec
  have hb := B.bytes
  have hr := B.returns
  have hts := atoms_spec (ws := wP_bringRows) B.pre
  have hta : ∀ w ∈ AW, w.before _ s = true := fun w h => hts w (List.mem_cons_of_mem _ h)
  have hown : s.vm.findClass RP = some m.cls := findClass_of_methodNamed B.named
  have hlocks := B.notSynchronized
  subst hsz
  have hD := hD0.self (sz := s.heap.size)
  generalize hAe : va_A (PW ad k P ++ (FW ad k F ++ TW ad k T)) s.heap.size = A at hD ⊢
  have hA : ∀ q : Nat, s.heap.size ≤ q → A q := fun q h => by rw [← hAe]; exact Or.inr h
  have hS : va_S A s.heap s.heap [] := va_S.rf
  have hl := lv_entry ([.ref (ad 7)]) (n := 2) (Nat.le_of_ble_eq_true rfl)
  rw [lg_entry_eq]
  generalize (lg_sl ([.ref (ad 7)]) ++ List.replicate (2 - (lg_sl ([.ref (ad 7)])).length) Slot.unset).toArray = ls at hl ⊢
  have hl : lv_has ls 2 [(0, .ref (ad 7))] := hl
  refine lv_aload_n hx hb dP_bringRows_0 rfl (lv_at hl 0 rfl) ?_
  refine va_get (D := (dC, dI)) (ci := 1) (v := .int (nI P.rin)) (C := RP) (T := FP) (N := 12) hx hb hta iP hown hK hP 0 rfl rfl 8 (by decide) (hta _ m_71) (fun _ h9 => h9) rfl dP_bringRows_1 ?_
  refine lv_istore_n (lv' := [(1, .int (nI P.rin)), (0, .ref (ad 7))]) hx hb dP_bringRows_4 rfl hl (by decide) rfl (fun ls hl => ?_)
  have loop5 : ∀ (n : Nat) (i : Nat) (T2 : TS) (L : Nat → Int32) (H : Heap) (locs : List Loc) (ls : Array Slot), (i + n = P.rows) → (T2.w = T.w) → (T2.h ≤ 24) → (bwL P.K P.B F i n T2 L i = bwL P.K P.B F P.rin (P.rows - P.rin) T P.L P.rin) → va_P (dC, dI) vwCl (PW ad k (ps P.K P.V P.B L P.wk P.rows i P.stp P.run P.lat) ++ (FW ad k F ++ TW ad k T2)) H → va_D A (PW ad k (ps P.K P.V P.B L P.wk P.rows i P.stp P.run P.lat) ++ (FW ad k F ++ TW ad k T2)) → va_S A s.heap H locs → lv_has ls 2 [(1, .int (nI i)), (0, .ref (ad 7))] → W p l e (headSpec wP_bringRows ({ frames := 4, cells := 0, slots := 0, locals := 95 })).room s m ([.ref (ad 7)] : List Value).toArray below meth c H locs 0 0 (MQ below (wQ (some (.int (bI (bwL P.K P.B F P.rin (P.rows - P.rin) T P.L P.rin).1))) (dC, dI) vwCl (PW ad k (ps P.K P.V P.B ((bwL P.K P.B F P.rin (P.rows - P.rin) T P.L P.rin).2.2.1) P.wk P.rows ((bwL P.K P.B F P.rin (P.rows - P.rin) T P.L P.rin).2.2.2) P.stp P.run P.lat) ++ (FW ad k F ++ TW ad k ((bwL P.K P.B F P.rin (P.rows - P.rin) T P.L P.rin).2.1))) A) ([.ref (ad 7)] : List Value).toArray s 0 0 A) (F0 m 5 ls []) := by
    intro n
    induction n with
    | zero =>
      intro i T2 L H locs ls hn hw2 hh2 hq hP hD hS hl
      refine lv_iload_n hx hb dP_bringRows_5 rfl (lv_at hl 0 rfl) ?_
      refine lv_aload_n hx hb dP_bringRows_6 rfl (lv_at hl 1 rfl) ?_
      refine va_get (D := (dC, dI)) (ci := 1) (v := .int (nI P.rows)) (C := RP) (T := FP) (N := 12) hx hb hta iP hown hK hP 0 rfl rfl 7 (by decide) (hta _ m_70) (fun _ h9 => h9) rfl dP_bringRows_7 ?_
      refine ni_ge (tgt := 36) hx hb dP_bringRows_10 (by decide) (by omega) (by omega) (fun c_1 => ?_) (fun c_1 => ?_)
      · refine lv_iconst (v := 1) hx hb dP_bringRows_36 (by decide) ?_
        exact W.zret (v := 1) hx hb hr (rfl) (fun t ht hW => ⟨congrArg (fun z => Outcome.returned (some (.int z))) (by rw [← hq]; rfl), by rw [ht]; exact (by rw [← hq]; exact hP), hS.F ht⟩) hS.2.2 dP_bringRows_37
      · exfalso; omega
    | succ n ih =>
      intro i T2 L H locs ls hn hw2 hh2 hq hP hD hS hl
      refine lv_iload_n hx hb dP_bringRows_5 rfl (lv_at hl 0 rfl) ?_
      refine lv_aload_n hx hb dP_bringRows_6 rfl (lv_at hl 1 rfl) ?_
      refine va_get (D := (dC, dI)) (ci := 1) (v := .int (nI P.rows)) (C := RP) (T := FP) (N := 12) hx hb hta iP hown hK hP 0 rfl rfl 7 (by decide) (hta _ m_70) (fun _ h9 => h9) rfl dP_bringRows_7 ?_
      refine ni_ge (tgt := 36) hx hb dP_bringRows_10 (by decide) (by omega) (by omega) (fun c_2 => ?_) (fun c_2 => ?_)
      · exfalso; omega
      · refine lv_aload_n hx hb dP_bringRows_13 rfl (lv_at hl 1 rfl) ?_
        refine lv_iload_n hx hb dP_bringRows_14 rfl (lv_at hl 0 rfl) ?_
        refine wr_call (X := ([] : va_W)) (va_runV (As := [.int (nI i)]) (rest := []) ⟨hx, hb, hml, hown, hta⟩ (c_P_bringRow l dC dI ad k (ps P.K P.V P.B L P.wk P.rows i P.stp P.run P.lat) F T2 H.size i (by first | omega | exact hw | exact hh) (by first | omega | exact hw | exact hh) (by first | omega | exact hw | exact hh)) (cwV 1 hta (gV m_367 m_369 mp_22 m_1 m_370) rfl rfl rfl (by decide +kernel) ⟨Nat.le_of_ble_eq_true rfl, Nat.le_of_ble_eq_true rfl⟩) (wr_V nW_ok hX hK hP hD (ci := 1) (q0 := 0) rfl rfl) rfl rfl hl.1 rfl (lv_room (Nat.le_of_ble_eq_true rfl)) dP_bringRows_15 ⟨Nat.zero_le _, Nat.zero_le _⟩) hP hD hS hA rfl (fun H locs hP hD hS => ?_)
        have hP : va_P (dC, dI) vwCl (PW ad k (ps P.K P.V P.B ((brM P.K P.B L F T2 i).2.2) P.wk P.rows i P.stp P.run P.lat) ++ (FW ad k F ++ TW ad k ((brM P.K P.B L F T2 i).2.1))) H := hP
        have hD : va_D A (PW ad k (ps P.K P.V P.B ((brM P.K P.B L F T2 i).2.2) P.wk P.rows i P.stp P.run P.lat) ++ (FW ad k F ++ TW ad k ((brM P.K P.B L F T2 i).2.1))) := hD
        refine W.eq (g2 := F0 m 18 ls [.int (bI (brM P.K P.B L F T2 i).1)]) rfl ?_
        refine lb_ne (tgt := 23) hx hb dP_bringRows_18 (by decide) (fun hc => ?_) (fun hc => ?_)
        · refine lv_aload_n hx hb dP_bringRows_23 rfl (lv_at hl 1 rfl) ?_
          refine lv_iload_n hx hb dP_bringRows_24 rfl (lv_at hl 0 rfl) ?_
          refine lv_iconst (v := nI 1) hx hb dP_bringRows_25 (by decide) ?_
          refine lv_iadd hx hb dP_bringRows_26 ?_
          refine st_i (y := nI (i + 1)) (nI_add _ _) ?_
          refine va_put (D := (dC, dI)) (ci := 1) (v := .int (nI (i + 1))) (ty := .int) (C := RP) (T := FP) (N := 12) hx hb hta iP tP tP_ok nP hown hK hP hD hS 0 rfl rfl 8 (by decide) (hta _ m_71) (fun _ h9 => h9) rfl (by decide +kernel) rfl rfl (Nat.le_of_ble_eq_true rfl) dP_bringRows_27 (fun H locs hP hD hS => ?_)
          have hP : va_P (dC, dI) vwCl (PW ad k (ps P.K P.V P.B ((brM P.K P.B L F T2 i).2.2) P.wk P.rows (i + 1) P.stp P.run P.lat) ++ (FW ad k F ++ TW ad k ((brM P.K P.B L F T2 i).2.1))) H := hP
          have hD : va_D A (PW ad k (ps P.K P.V P.B ((brM P.K P.B L F T2 i).2.2) P.wk P.rows (i + 1) P.stp P.run P.lat) ++ (FW ad k F ++ TW ad k ((brM P.K P.B L F T2 i).2.1))) := hD
          refine lv_iinc (v := nI (i + 1)) (lv' := [(1, .int (nI (i + 1))), (0, .ref (ad 7))]) hx hb dP_bringRows_30 hl (k := 0) rfl (nI_add i 1) (by decide) rfl (fun ls hl => ?_)
          refine lv_goto (tgt := 5) hx hb dP_bringRows_33 (by decide) ?_
          exact ih (i + 1) (brM P.K P.B L F T2 i).2.1 (brM P.K P.B L F T2 i).2.2 H locs ls (by omega) (by rw [brM_w]; exact hw2) (brM_h hh2) (by rw [← hq]; simp [bwL, hc]) hP hD hS (lv_sub hl [0, 1] rfl)
        · refine lv_iconst (v := 0) hx hb dP_bringRows_21 (by decide) ?_
          exact W.zret (v := 0) hx hb hr (rfl) (fun t ht hW => ⟨congrArg (fun z => Outcome.returned (some (.int z))) (by rw [← hq]; simp [bwL, hc, bI]), by rw [ht]; exact (by rw [← hq]; simpa [bwL, hc] using hP), hS.F ht⟩) hS.2.2 dP_bringRows_22
  exact loop5 (P.rows - P.rin) P.rin T P.L s.heap [] ls (by omega) rfl hh rfl hP hD hS (lv_sub hl [0, 1] rfl)

set_option maxHeartbeats 4000000 in
set_option maxRecDepth 100000 in
theorem c_P_doSteps (l : Launch) (dC : Nat → ClassId) (dI : Nat → Nat → Nat) (ad : Nat → Nat) (k : Nat → ClassId) (P : PS) (F : Nat → Int32) (T : TS) (sz : Nat) (mo : Nat) (hw : T.w ≤ 12) (hh : T.h ≤ 24) (hmo : mo ≤ 1000) : Met l yP_doSteps wP_doSteps ({ frames := 3, cells := 0, slots := 0, locals := 89 }) (wPc [.ref (ad 7), .int (nI mo)] sz (dC, dI) vwCl (PW ad k P ++ (FW ad k F ++ TW ad k T)) (PK k ++ (FK k ++ TK k)) nW) (wQ (some (.int ((dsL (mo + 1) T P.stp).1))) (dC, dI) vwCl (PW ad k (ps P.K P.V P.B P.L P.wk P.rows P.rin ((dsL (mo + 1) T P.stp).2.2) P.run P.lat) ++ (FW ad k F ++ TW ad k ((dsL (mo + 1) T P.stp).2.1))) (va_A (PW ad k P ++ (FW ad k F ++ TW ad k T)) sz)) 0 0 (va_A (PW ad k P ++ (FW ad k F ++ TW ad k T)) sz) := by
  refine Met.ofW (cc := bP_doSteps) (maxL := 5) (ret := (some .int)) (by decide) rfl ?_
  intro p e s m args below meth c s₁ B hml hv
  obtain ⟨rfl, hsz, hP, hK, hD0, hX⟩ := hv
  have hx := B.exec
  have hb := B.bytes
  have hr := B.returns
  have hts := atoms_spec (ws := wP_doSteps) B.pre
  have hta : ∀ w ∈ AW, w.before _ s = true := fun w h => hts w (List.mem_cons_of_mem _ h)
  have hown : s.vm.findClass RP = some m.cls := findClass_of_methodNamed B.named
  have hlocks := B.notSynchronized
  subst hsz
  have hD := hD0.self (sz := s.heap.size)
  generalize hAe : va_A (PW ad k P ++ (FW ad k F ++ TW ad k T)) s.heap.size = A at hD ⊢
  have hA : ∀ q : Nat, s.heap.size ≤ q → A q := fun q h => by rw [← hAe]; exact Or.inr h
  have hS : va_S A s.heap s.heap [] := va_S.rf
  have hl := lv_entry ([.ref (ad 7), .int (nI mo)]) (n := 5) (Nat.le_of_ble_eq_true rfl)
  rw [lg_entry_eq]
  generalize (lg_sl ([.ref (ad 7), .int (nI mo)]) ++ List.replicate (5 - (lg_sl ([.ref (ad 7), .int (nI mo)])).length) Slot.unset).toArray = ls at hl ⊢
  have hl : lv_has ls 5 [(0, .ref (ad 7)), (1, .int (nI mo))] := hl
  refine lv_iconst (v := nI 0) hx hb dP_doSteps_0 (by decide) ?_
  refine lv_istore_n (lv' := [(2, .int (nI 0)), (0, .ref (ad 7)), (1, .int (nI mo))]) hx hb dP_doSteps_1 rfl hl (by decide) rfl (fun ls hl => ?_)
  have loop2 : ∀ (n : Nat) (i : Nat) (T2 : TS) (sp : Int32) (H : Heap) (locs : List Loc) (ls : Array Slot), (i + n = mo + 1) → (T2.w ≤ 12) → (T2.h ≤ 24) → (dsL n T2 sp = dsL (mo + 1) T P.stp) → va_P (dC, dI) vwCl (PW ad k (ps P.K P.V P.B P.L P.wk P.rows P.rin sp P.run P.lat) ++ (FW ad k F ++ TW ad k T2)) H → va_D A (PW ad k (ps P.K P.V P.B P.L P.wk P.rows P.rin sp P.run P.lat) ++ (FW ad k F ++ TW ad k T2)) → va_S A s.heap H locs → lv_has ls 5 [(2, .int (nI i)), (0, .ref (ad 7)), (1, .int (nI mo))] → W p l e (headSpec wP_doSteps ({ frames := 3, cells := 0, slots := 0, locals := 89 })).room s m ([.ref (ad 7), .int (nI mo)] : List Value).toArray below meth c H locs 0 0 (MQ below (wQ (some (.int ((dsL (mo + 1) T P.stp).1))) (dC, dI) vwCl (PW ad k (ps P.K P.V P.B P.L P.wk P.rows P.rin ((dsL (mo + 1) T P.stp).2.2) P.run P.lat) ++ (FW ad k F ++ TW ad k ((dsL (mo + 1) T P.stp).2.1))) A) ([.ref (ad 7), .int (nI mo)] : List Value).toArray s 0 0 A) (F0 m 2 ls []) := by
    intro n
    induction n with
    | zero =>
      intro i T2 sp H locs ls hn hw2 hh2 hq hP hD hS hl
      refine lv_iload_n hx hb dP_doSteps_2 rfl (lv_at hl 0 rfl) ?_
      refine lv_iload_n hx hb dP_doSteps_3 rfl (lv_at hl 2 rfl) ?_
      refine ni_gt (tgt := 88) hx hb dP_doSteps_4 (by decide) (by omega) (by omega) (fun c_1 => ?_) (fun c_1 => ?_)
      · refine lv_iconst (v := 2) hx hb dP_doSteps_88 (by decide) ?_
        exact W.iret (v := 2) hx hb hr (fun t ht hW => ⟨congrArg (fun z => Outcome.returned (some (.int z))) (by rw [← hq]; rfl), by rw [ht]; exact (by rw [← hq]; exact hP), hS.F ht⟩) hS.2.2 dP_doSteps_89
      · exfalso; omega
    | succ n ih =>
      intro i T2 sp H locs ls hn hw2 hh2 hq hP hD hS hl
      refine lv_iload_n hx hb dP_doSteps_2 rfl (lv_at hl 0 rfl) ?_
      refine lv_iload_n hx hb dP_doSteps_3 rfl (lv_at hl 2 rfl) ?_
      refine ni_gt (tgt := 88) hx hb dP_doSteps_4 (by decide) (by omega) (by omega) (fun c_2 => ?_) (fun c_2 => ?_)
      · exfalso; omega
      · refine lv_aload_n hx hb dP_doSteps_7 rfl (lv_at hl 1 rfl) ?_
        refine va_get (D := (dC, dI)) (ci := 1) (v := .ref (ad 0)) (C := RP) (T := FP) (N := 12) hx hb hta iP hown hK hP 0 rfl rfl 6 (by decide) (hta _ m_69) (fun _ h9 => h9) rfl dP_doSteps_8 ?_
        refine rd_call (va_runVN (As := []) (rest := []) ⟨hx, hb, hml, hown, hta⟩ (c_T_leavingPlace l dC dI ad k T2 (by first | omega | exact hw | exact hh)) ⟨(va_cnB 0 hta (gC m_397) rfl rfl rfl (hX _ nw_13) (hta _ m_2) (by decide +kernel) ⟨Nat.le_of_ble_eq_true rfl, Nat.le_of_ble_eq_true rfl⟩), hta _ m_396, hta _ mp_28⟩ (rd_V xT_ok trivial (hK.sub [5, 6, 7, 8, 9] rfl) (hP.sub [6, 7, 8, 9, 10, 11] rfl) (ci := 0) (q0 := 0) rfl rfl) rfl rfl hl.1 rfl (lv_room (Nat.le_of_ble_eq_true rfl)) dP_doSteps_11 ⟨Nat.zero_le _, Nat.zero_le _⟩) ?_
        refine W.eq (g2 := F0 m 14 ls [.int (enc (lvM T2 1 T2.h none))]) rfl ?_
        refine lv_istore_n (lv' := [(3, .int (enc (lvM T2 1 T2.h none))), (2, .int (nI i)), (0, .ref (ad 7)), (1, .int (nI mo))]) hx hb dP_doSteps_14 rfl hl (by decide) rfl (fun ls hl => ?_)
        refine lv_iload_n hx hb dP_doSteps_15 rfl (lv_at hl 0 rfl) ?_
        refine lv_iconst (v := (-1)) hx hb dP_doSteps_16 (by decide) ?_
        refine en_ne (o := (lvM T2 1 T2.h none)) (tgt := 22) hx hb dP_doSteps_17 (by decide) (fun j h => by have := lvM_lt h; omega) (fun le h1 => ?_) (fun h1 => ?_)
        · rw [h1] at hl
          have hl : lv_has ls 5 [(3, .int (nI le)), (2, .int (nI i)), (0, .ref (ad 7)), (1, .int (nI mo))] := hl
          have hle := lvM_lt h1
          refine lv_aload_n hx hb dP_doSteps_22 rfl (lv_at hl 2 rfl) ?_
          refine va_get (D := (dC, dI)) (ci := 1) (v := .ref (ad 0)) (C := RP) (T := FP) (N := 12) hx hb hta iP hown hK hP 0 rfl rfl 6 (by decide) (hta _ m_69) (fun _ h9 => h9) rfl dP_doSteps_23 ?_
          refine lv_iload_n hx hb dP_doSteps_26 rfl (lv_at hl 0 rfl) ?_
          refine rd_call (va_runVN (As := [.int (nI le)]) (rest := []) ⟨hx, hb, hml, hown, hta⟩ (c_T_enteringPlace l dC dI ad k T2 le (by first | omega | exact hw | exact hh) (by first | omega | exact hw | exact hh)) ⟨(va_cnB 1 hta (gC m_401) rfl rfl rfl (hX _ nw_14) (hta _ m_2) (by decide +kernel) ⟨Nat.le_of_ble_eq_true rfl, Nat.le_of_ble_eq_true rfl⟩), hta _ m_400, hta _ mp_29⟩ (rd_V xT_ok trivial (hK.sub [5, 6, 7, 8, 9] rfl) (hP.sub [6, 7, 8, 9, 10, 11] rfl) (ci := 0) (q0 := 0) rfl rfl) rfl rfl hl.1 rfl (lv_room (Nat.le_of_ble_eq_true rfl)) dP_doSteps_27 ⟨Nat.zero_le _, Nat.zero_le _⟩) ?_
          refine W.eq (g2 := F0 m 30 ls [.int (enc (enM T2 le 1 T2.w none))]) rfl ?_
          refine lv_istore (lv' := [(4, .int (enc (enM T2 le 1 T2.w none))), (3, .int (nI le)), (2, .int (nI i)), (0, .ref (ad 7)), (1, .int (nI mo))]) hx hb dP_doSteps_30 hl (by decide) rfl (fun ls hl => ?_)
          refine lv_iload hx hb dP_doSteps_32 (lv_at hl 0 rfl) ?_
          refine lv_iconst (v := (-1)) hx hb dP_doSteps_34 (by decide) ?_
          refine en_ne (o := (enM T2 le 1 T2.w none)) (tgt := 40) hx hb dP_doSteps_35 (by decide) (fun j h => by have := enM_lt h; omega) (fun en h2 => ?_) (fun h2 => ?_)
          · rw [h2] at hl
            have hl : lv_has ls 5 [(4, .int (nI en)), (3, .int (nI le)), (2, .int (nI i)), (0, .ref (ad 7)), (1, .int (nI mo))] := hl
            have hen := enM_lt h2
            refine lv_iload_n hx hb dP_doSteps_40 rfl (lv_at hl 2 rfl) ?_
            refine lv_iload_n hx hb dP_doSteps_41 rfl (lv_at hl 4 rfl) ?_
            refine ni_ne (tgt := 47) hx hb dP_doSteps_42 (by decide) (by omega) (by omega) (fun h3 => ?_) (fun h3 => ?_)
            · have h3 : ¬ n = 0 := by omega
              refine lv_aload_n hx hb dP_doSteps_47 rfl (lv_at hl 3 rfl) ?_
              refine va_get (D := (dC, dI)) (ci := 1) (v := .ref (ad 0)) (C := RP) (T := FP) (N := 12) hx hb hta iP hown hK hP 0 rfl rfl 6 (by decide) (hta _ m_69) (fun _ h9 => h9) rfl dP_doSteps_48 ?_
              refine lv_iload_n hx hb dP_doSteps_51 rfl (lv_at hl 1 rfl) ?_
              refine lv_iload hx hb dP_doSteps_52 (lv_at hl 0 rfl) ?_
              refine rd_call (va_runVN (As := [.int (nI le), .int (nI en)]) (rest := []) ⟨hx, hb, hml, hown, hta⟩ (c_T_stepFits l dC dI ad k T2 le en (by first | omega | exact hw | exact hh) (by first | omega | exact hw | exact hh) (by first | omega | exact hw | exact hh) (by first | omega | exact hw | exact hh)) ⟨(va_cnB 2 hta (gC m_409) rfl rfl rfl (hX _ nw_15) (hta _ m_2) (by decide +kernel) ⟨Nat.le_of_ble_eq_true rfl, Nat.le_of_ble_eq_true rfl⟩), hta _ m_408, hta _ mp_31⟩ (rd_V xT_ok trivial (hK.sub [5, 6, 7, 8, 9] rfl) (hP.sub [6, 7, 8, 9, 10, 11] rfl) (ci := 0) (q0 := 0) rfl rfl) rfl rfl hl.1 rfl (lv_room (Nat.le_of_ble_eq_true rfl)) dP_doSteps_54 ⟨Nat.zero_le _, Nat.zero_le _⟩) ?_
              refine W.eq (g2 := F0 m 57 ls [.int (bI (sfM T2 le en 0 (T2.h + 1)))]) rfl ?_
              refine lb_ne (tgt := 62) hx hb dP_doSteps_57 (by decide) (fun h4 => ?_) (fun h4 => ?_)
              · refine lv_aload_n hx hb dP_doSteps_62 rfl (lv_at hl 3 rfl) ?_
                refine va_get (D := (dC, dI)) (ci := 1) (v := .ref (ad 0)) (C := RP) (T := FP) (N := 12) hx hb hta iP hown hK hP 0 rfl rfl 6 (by decide) (hta _ m_69) (fun _ h9 => h9) rfl dP_doSteps_63 ?_
                refine lv_iload_n hx hb dP_doSteps_66 rfl (lv_at hl 1 rfl) ?_
                refine lv_iload hx hb dP_doSteps_67 (lv_at hl 0 rfl) ?_
                refine wr_call (X := PW ad k (ps P.K P.V P.B P.L P.wk P.rows P.rin sp P.run P.lat) ++ FW ad k F) (va_runVN (As := [.int (nI le), .int (nI en)]) (rest := []) ⟨hx, hb, hml, hown, hta⟩ (c_T_change l dC dI ad k T2 H.size le en (by first | omega | exact hw | exact hh) (by first | omega | exact hw | exact hh) (by first | omega | exact hw | exact hh) (by first | omega | exact hw | exact hh)) ⟨(va_cnB 2 hta (gC m_421) rfl rfl rfl (hX _ nw_16) (hta _ m_2) (by decide +kernel) ⟨Nat.le_of_ble_eq_true rfl, Nat.le_of_ble_eq_true rfl⟩), hta _ m_420, hta _ mp_34⟩ (wr_V xT_ok trivial (hK.sub [5, 6, 7, 8, 9] rfl) (hP.sub [6, 7, 8, 9, 10, 11] rfl) (hD.sub [6, 7, 8, 9, 10, 11] (by decide) rfl) (ci := 0) (q0 := 0) rfl rfl) rfl rfl hl.1 rfl (lv_room (Nat.le_of_ble_eq_true rfl)) dP_doSteps_69 ⟨Nat.zero_le _, Nat.zero_le _⟩) hP hD hS hA rfl (fun H locs hP hD hS => ?_)
                have hP : va_P (dC, dI) vwCl (PW ad k (ps P.K P.V P.B P.L P.wk P.rows P.rin sp P.run P.lat) ++ (FW ad k F ++ TW ad k (chM T2 le en))) H := hP
                have hD : va_D A (PW ad k (ps P.K P.V P.B P.L P.wk P.rows P.rin sp P.run P.lat) ++ (FW ad k F ++ TW ad k (chM T2 le en))) := hD
                refine W.eq (g2 := F0 m 72 ls []) rfl ?_
                refine lv_aload_n hx hb dP_doSteps_72 rfl (lv_at hl 3 rfl) ?_
                refine lv_dup hx hb dP_doSteps_73 rfl ?_
                refine va_get (D := (dC, dI)) (ci := 1) (v := .int sp) (C := RP) (T := FP) (N := 12) hx hb hta iP hown hK hP 0 rfl rfl 9 (by decide) (hta _ m_72) (fun _ h9 => h9) rfl dP_doSteps_74 ?_
                refine lv_iconst (v := 1) hx hb dP_doSteps_77 (by decide) ?_
                refine lv_iadd hx hb dP_doSteps_78 ?_
                refine va_put (D := (dC, dI)) (ci := 1) (v := .int (sp + 1)) (ty := .int) (C := RP) (T := FP) (N := 12) hx hb hta iP tP tP_ok nP hown hK hP hD hS 0 rfl rfl 9 (by decide) (hta _ m_72) (fun _ h9 => h9) rfl (by decide +kernel) rfl rfl (Nat.le_of_ble_eq_true rfl) dP_doSteps_79 (fun H locs hP hD hS => ?_)
                have hP : va_P (dC, dI) vwCl (PW ad k (ps P.K P.V P.B P.L P.wk P.rows P.rin (sp + 1) P.run P.lat) ++ (FW ad k F ++ TW ad k (chM T2 le en))) H := hP
                have hD : va_D A (PW ad k (ps P.K P.V P.B P.L P.wk P.rows P.rin (sp + 1) P.run P.lat) ++ (FW ad k F ++ TW ad k (chM T2 le en))) := hD
                refine lv_iinc (v := nI (i + 1)) (lv' := [(2, .int (nI (i + 1))), (4, .int (nI en)), (3, .int (nI le)), (0, .ref (ad 7)), (1, .int (nI mo))]) hx hb dP_doSteps_82 hl (k := 2) rfl (nI_add i 1) (by decide) rfl (fun ls hl => ?_)
                refine lv_goto (tgt := 2) hx hb dP_doSteps_85 (by decide) ?_
                exact ih (i + 1) (chM T2 le en) (sp + 1) H locs ls (by omega) hw2 hh2 (by rw [← hq]; simp [dsL, h1, h2, h3, h4]) hP hD hS (lv_sub hl [0, 3, 4] rfl)
              · refine lv_iconst (v := 3) hx hb dP_doSteps_60 (by decide) ?_
                exact W.iret (v := 3) hx hb hr (fun t ht hW => ⟨congrArg (fun z => Outcome.returned (some (.int z))) (by rw [← hq]; simp [dsL, h1, h2, h3, h4]), by rw [ht]; exact (by rw [← hq]; simpa [dsL, h1, h2, h3, h4] using hP), hS.F ht⟩) hS.2.2 dP_doSteps_61
            · have h3 : n = 0 := by omega
              refine lv_iconst (v := 2) hx hb dP_doSteps_45 (by decide) ?_
              exact W.iret (v := 2) hx hb hr (fun t ht hW => ⟨congrArg (fun z => Outcome.returned (some (.int z))) (by rw [← hq]; simp [dsL, h1, h2, h3]), by rw [ht]; exact (by rw [← hq]; simpa [dsL, h1, h2, h3] using hP), hS.F ht⟩) hS.2.2 dP_doSteps_46
          · rw [h2] at hl
            have hl : lv_has ls 5 [(4, .int (-1)), (3, .int (nI le)), (2, .int (nI i)), (0, .ref (ad 7)), (1, .int (nI mo))] := hl
            refine lv_iconst (v := 1) hx hb dP_doSteps_38 (by decide) ?_
            exact W.iret (v := 1) hx hb hr (fun t ht hW => ⟨congrArg (fun z => Outcome.returned (some (.int z))) (by rw [← hq]; simp [dsL, h1, h2]), by rw [ht]; exact (by rw [← hq]; simpa [dsL, h1, h2] using hP), hS.F ht⟩) hS.2.2 dP_doSteps_39
        · rw [h1] at hl
          have hl : lv_has ls 5 [(3, .int (-1)), (2, .int (nI i)), (0, .ref (ad 7)), (1, .int (nI mo))] := hl
          refine lv_iconst (v := 0) hx hb dP_doSteps_20 (by decide) ?_
          exact W.iret (v := 0) hx hb hr (fun t ht hW => ⟨congrArg (fun z => Outcome.returned (some (.int z))) (by rw [← hq]; simp [dsL, h1]), by rw [ht]; exact (by rw [← hq]; simpa [dsL, h1] using hP), hS.F ht⟩) hS.2.2 dP_doSteps_21
  exact loop2 (mo + 1) 0 T P.stp s.heap [] ls (by omega) hw hh rfl hP hD hS (lv_sub hl [0, 1, 2] rfl)

set_option maxHeartbeats 4000000 in
set_option maxRecDepth 100000 in
theorem c_P_moveStarts (l : Launch) (dC : Nat → ClassId) (dI : Nat → Nat → Nat) (ad : Nat → Nat) (k : Nat → ClassId) (P : PS) (F : Nat → Int32) (T : TS) (sz : Nat) (r : Nat) (b : Int64) (hw : T.w ≤ 12) (hh : T.h ≤ 24) (hr9 : r < 12) : Met l yP_moveStarts wP_moveStarts ({ frames := 2, cells := 0, slots := 0, locals := 48 }) (wPc [.ref (ad 7), .int (nI r), .long b] sz (dC, dI) vwCl (PW ad k P ++ (FW ad k F ++ TW ad k T)) (PK k ++ (FK k ++ TK k)) nW) (wQ (some (.int (bI (mvM P.K P.L T r b).1))) (dC, dI) vwCl (PW ad k P ++ (FW ad k F ++ TW ad k ((mvM P.K P.L T r b).2))) (va_A (PW ad k P ++ (FW ad k F ++ TW ad k T)) sz)) 0 0 (va_A (PW ad k P ++ (FW ad k F ++ TW ad k T)) sz) := by
  refine Met.ofW (cc := bP_moveStarts) (maxL := 5) (ret := (some .boolean)) (by decide) rfl ?_
  intro p e s m args below meth c s₁ B hml hv
  obtain ⟨rfl, hsz, hP, hK, hD0, hX⟩ := hv
  have hx := B.exec
  have hb := B.bytes
  have hr := B.returns
  have hts := atoms_spec (ws := wP_moveStarts) B.pre
  have hta : ∀ w ∈ AW, w.before _ s = true := fun w h => hts w (List.mem_cons_of_mem _ h)
  have hown : s.vm.findClass RP = some m.cls := findClass_of_methodNamed B.named
  have hlocks := B.notSynchronized
  subst hsz
  have hD := hD0.self (sz := s.heap.size)
  generalize hAe : va_A (PW ad k P ++ (FW ad k F ++ TW ad k T)) s.heap.size = A at hD ⊢
  have hA : ∀ q : Nat, s.heap.size ≤ q → A q := fun q h => by rw [← hAe]; exact Or.inr h
  have hS : va_S A s.heap s.heap [] := va_S.rf
  have hl := lv_entry ([.ref (ad 7), .int (nI r), .long b]) (n := 5) (Nat.le_of_ble_eq_true rfl)
  rw [lg_entry_eq]
  generalize (lg_sl ([.ref (ad 7), .int (nI r), .long b]) ++ List.replicate (5 - (lg_sl ([.ref (ad 7), .int (nI r), .long b])).length) Slot.unset).toArray = ls at hl ⊢
  have hl : lv_has ls 5 [(0, .ref (ad 7)), (1, .int (nI r)), (2, .long b)] := hl
  refine lv_aload_n hx hb dP_moveStarts_0 rfl (lv_at hl 0 rfl) ?_
  refine va_get (D := (dC, dI)) (ci := 1) (v := .ref (ad 0)) (C := RP) (T := FP) (N := 12) hx hb hta iP hown hK hP 0 rfl rfl 6 (by decide) (hta _ m_69) (fun _ h9 => h9) rfl dP_moveStarts_1 ?_
  refine wr_call (X := PW ad k P ++ FW ad k F) (va_runVN (As := []) (rest := []) ⟨hx, hb, hml, hown, hta⟩ (c_T_copyStarts l dC dI ad k T s.heap.size (by first | omega | exact hw | exact hh)) ⟨(va_cnB 0 hta (gC m_325) rfl rfl rfl (hX _ nw_7) (hta _ m_2) (by decide +kernel) ⟨Nat.le_of_ble_eq_true rfl, Nat.le_of_ble_eq_true rfl⟩), hta _ m_324, hta _ mp_14⟩ (wr_V xT_ok trivial (hK.sub [5, 6, 7, 8, 9] rfl) (hP.sub [6, 7, 8, 9, 10, 11] rfl) (hD.sub [6, 7, 8, 9, 10, 11] (by decide) rfl) (ci := 0) (q0 := 0) rfl rfl) rfl rfl hl.1 rfl (lv_room (Nat.le_of_ble_eq_true rfl)) dP_moveStarts_4 ⟨Nat.zero_le _, Nat.zero_le _⟩) hP hD hS hA rfl (fun H locs hP hD hS => ?_)
  have hP : va_P (dC, dI) vwCl (PW ad k P ++ (FW ad k F ++ TW ad k (ts T.C T.I T.O T.G (csL T.C 0 (T.h + 1) T.S) T.w T.h T.d))) H := hP
  have hD : va_D A (PW ad k P ++ (FW ad k F ++ TW ad k (ts T.C T.I T.O T.G (csL T.C 0 (T.h + 1) T.S) T.w T.h T.d))) := hD
  refine W.eq (g2 := F0 m 7 ls []) rfl ?_
  refine lv_iconst (v := nI 0) hx hb dP_moveStarts_7 (by decide) ?_
  refine lv_istore (lv' := [(4, .int (nI 0)), (0, .ref (ad 7)), (1, .int (nI r)), (2, .long b)]) hx hb dP_moveStarts_8 hl (by decide) rfl (fun ls hl => ?_)
  have loop10 : ∀ (n : Nat) (j : Nat) (T2 : TS) (H : Heap) (locs : List Loc) (ls : Array Slot), (j + n = lnM P.K r) → (T2.w = T.w) → (T2.h = T.h) → (mvL P.K P.L r b j n T2 = (mvL P.K P.L r b 0 (lnM P.K r) (ts T.C T.I T.O T.G (csL T.C 0 (T.h + 1) T.S) T.w T.h T.d))) → va_P (dC, dI) vwCl (PW ad k P ++ (FW ad k F ++ TW ad k T2)) H → va_D A (PW ad k P ++ (FW ad k F ++ TW ad k T2)) → va_S A s.heap H locs → lv_has ls 5 [(4, .int (nI j)), (0, .ref (ad 7)), (1, .int (nI r)), (2, .long b)] → W p l e (headSpec wP_moveStarts ({ frames := 2, cells := 0, slots := 0, locals := 48 })).room s m ([.ref (ad 7), .int (nI r), .long b] : List Value).toArray below meth c H locs 0 0 (MQ below (wQ (some (.int (bI (mvM P.K P.L T r b).1))) (dC, dI) vwCl (PW ad k P ++ (FW ad k F ++ TW ad k ((mvM P.K P.L T r b).2))) A) ([.ref (ad 7), .int (nI r), .long b] : List Value).toArray s 0 0 A) (F0 m 10 ls []) := by
    intro n
    induction n with
    | zero =>
      intro j T2 H locs ls hn hw2 hh2 hq hP hD hS hl
      have hln := lnM_le P.K r
      refine lv_iload hx hb dP_moveStarts_10 (lv_at hl 0 rfl) ?_
      refine lv_aload_n hx hb dP_moveStarts_12 rfl (lv_at hl 1 rfl) ?_
      refine lv_iload_n hx hb dP_moveStarts_13 rfl (lv_at hl 2 rfl) ?_
      refine rd_call (va_runV (As := [.int (nI r)]) (rest := [.int (nI j)]) ⟨hx, hb, hml, hown, hta⟩ (c_P_linesOf l dC dI ad k P F T2 r (by first | omega | exact hw | exact hh)) (cwV 1 hta (gV m_326 m_328 mp_15 m_1 m_329) rfl rfl rfl (by decide +kernel) ⟨Nat.le_of_ble_eq_true rfl, Nat.le_of_ble_eq_true rfl⟩) (rd_V nW_ok hX hK hP (ci := 1) (q0 := 0) rfl rfl) rfl rfl hl.1 rfl (lv_room (Nat.le_of_ble_eq_true rfl)) dP_moveStarts_14 ⟨Nat.zero_le _, Nat.zero_le _⟩) ?_
      refine W.eq (g2 := F0 m 17 ls [.int (nI (lnM P.K r)), .int (nI j)]) rfl ?_
      refine ni_ge (tgt := 51) hx hb dP_moveStarts_17 (by decide) (by omega) (by omega) (fun c_1 => ?_) (fun c_1 => ?_)
      · refine lv_aload_n hx hb dP_moveStarts_51 rfl (lv_at hl 1 rfl) ?_
        refine va_get (D := (dC, dI)) (ci := 1) (v := .ref (ad 0)) (C := RP) (T := FP) (N := 12) hx hb hta iP hown hK hP 0 rfl rfl 6 (by decide) (hta _ m_69) (fun _ h9 => h9) rfl dP_moveStarts_52 ?_
        refine wr_call (X := PW ad k P ++ FW ad k F) (va_runVN (As := []) (rest := []) ⟨hx, hb, hml, hown, hta⟩ (c_T_takeCopiedStarts l dC dI ad k T2 H.size (by first | omega | exact hw | exact hh)) ⟨(va_cnB 0 hta (gC m_349) rfl rfl rfl (hX _ nw_9) (hta _ m_2) (by decide +kernel) ⟨Nat.le_of_ble_eq_true rfl, Nat.le_of_ble_eq_true rfl⟩), hta _ m_348, hta _ mp_20⟩ (wr_V xT_ok trivial (hK.sub [5, 6, 7, 8, 9] rfl) (hP.sub [6, 7, 8, 9, 10, 11] rfl) (hD.sub [6, 7, 8, 9, 10, 11] (by decide) rfl) (ci := 0) (q0 := 0) rfl rfl) rfl rfl hl.1 rfl (lv_room (Nat.le_of_ble_eq_true rfl)) dP_moveStarts_55 ⟨Nat.zero_le _, Nat.zero_le _⟩) hP hD hS hA rfl (fun H locs hP hD hS => ?_)
        have hP : va_P (dC, dI) vwCl (PW ad k P ++ (FW ad k F ++ TW ad k (ts (if allF T2.S 0 (T2.h + 1) then tkL T2.S 0 (T2.h + 1) T2.C else T2.C) T2.I T2.O T2.G T2.S T2.w T2.h T2.d))) H := hP
        have hD : va_D A (PW ad k P ++ (FW ad k F ++ TW ad k (ts (if allF T2.S 0 (T2.h + 1) then tkL T2.S 0 (T2.h + 1) T2.C else T2.C) T2.I T2.O T2.G T2.S T2.w T2.h T2.d))) := hD
        refine W.eq (g2 := F0 m 58 ls [.int (bI (allF T2.S 0 (T2.h + 1)))]) rfl ?_
        exact W.zret (v := bI (allF T2.S 0 (T2.h + 1))) hx hb hr (nar_bI _) (fun t ht hW => ⟨congrArg (fun z => Outcome.returned (some (.int z))) (by have hq3 : T2 = (mvL P.K P.L r b 0 (lnM P.K r) (ts T.C T.I T.O T.G (csL T.C 0 (T.h + 1) T.S) T.w T.h T.d)) := hq; rw [hq3]; rfl), by rw [ht]; exact (by have hq3 : T2 = (mvL P.K P.L r b 0 (lnM P.K r) (ts T.C T.I T.O T.G (csL T.C 0 (T.h + 1) T.S) T.w T.h T.d)) := hq; rw [hq3] at hP; exact hP), hS.F ht⟩) hS.2.2 dP_moveStarts_58
      · exfalso; omega
    | succ n ih =>
      intro j T2 H locs ls hn hw2 hh2 hq hP hD hS hl
      have hln := lnM_le P.K r
      refine lv_iload hx hb dP_moveStarts_10 (lv_at hl 0 rfl) ?_
      refine lv_aload_n hx hb dP_moveStarts_12 rfl (lv_at hl 1 rfl) ?_
      refine lv_iload_n hx hb dP_moveStarts_13 rfl (lv_at hl 2 rfl) ?_
      refine rd_call (va_runV (As := [.int (nI r)]) (rest := [.int (nI j)]) ⟨hx, hb, hml, hown, hta⟩ (c_P_linesOf l dC dI ad k P F T2 r (by first | omega | exact hw | exact hh)) (cwV 1 hta (gV m_326 m_328 mp_15 m_1 m_329) rfl rfl rfl (by decide +kernel) ⟨Nat.le_of_ble_eq_true rfl, Nat.le_of_ble_eq_true rfl⟩) (rd_V nW_ok hX hK hP (ci := 1) (q0 := 0) rfl rfl) rfl rfl hl.1 rfl (lv_room (Nat.le_of_ble_eq_true rfl)) dP_moveStarts_14 ⟨Nat.zero_le _, Nat.zero_le _⟩) ?_
      refine W.eq (g2 := F0 m 17 ls [.int (nI (lnM P.K r)), .int (nI j)]) rfl ?_
      refine ni_ge (tgt := 51) hx hb dP_moveStarts_17 (by decide) (by omega) (by omega) (fun c_2 => ?_) (fun c_2 => ?_)
      · exfalso; omega
      · refine lv_aload_n hx hb dP_moveStarts_20 rfl (lv_at hl 1 rfl) ?_
        refine va_get (D := (dC, dI)) (ci := 1) (v := .ref (ad 0)) (C := RP) (T := FP) (N := 12) hx hb hta iP hown hK hP 0 rfl rfl 6 (by decide) (hta _ m_69) (fun _ h9 => h9) rfl dP_moveStarts_21 ?_
        refine lv_aload_n hx hb dP_moveStarts_24 rfl (lv_at hl 1 rfl) ?_
        refine lv_iload_n hx hb dP_moveStarts_25 rfl (lv_at hl 2 rfl) ?_
        refine lv_iload hx hb dP_moveStarts_26 (lv_at hl 0 rfl) ?_
        refine rd_call (va_runV (As := [.int (nI r), .int (nI j)]) (rest := [.ref (ad 0)]) ⟨hx, hb, hml, hown, hta⟩ (c_P_variableOf l dC dI ad k P F T2 r j (by first | omega | exact hw | exact hh)) (cwV 2 hta (gV m_330 m_332 mp_16 m_1 m_333) rfl rfl rfl (by decide +kernel) ⟨Nat.le_of_ble_eq_true rfl, Nat.le_of_ble_eq_true rfl⟩) (rd_V nW_ok hX hK hP (ci := 1) (q0 := 0) rfl rfl) rfl rfl hl.1 rfl (lv_room (Nat.le_of_ble_eq_true rfl)) dP_moveStarts_28 ⟨Nat.zero_le _, Nat.zero_le _⟩) ?_
        refine W.eq (g2 := F0 m 31 ls [.int (nI T2.w + P.L r + nI j), .ref (ad 0)]) rfl ?_
        refine lv_aload_n hx hb dP_moveStarts_31 rfl (lv_at hl 1 rfl) ?_
        refine lv_iload_n hx hb dP_moveStarts_32 rfl (lv_at hl 2 rfl) ?_
        refine lv_iload hx hb dP_moveStarts_33 (lv_at hl 0 rfl) ?_
        refine rd_call (va_runV (As := [.int (nI r), .int (nI j)]) (rest := [.int (nI T2.w + P.L r + nI j), .ref (ad 0)]) ⟨hx, hb, hml, hown, hta⟩ (c_P_signOf l dC dI ad k P F T2 r j (by first | omega | exact hw | exact hh) (by first | omega | exact hw | exact hh)) (cwV 2 hta (gV m_334 m_336 mp_17 m_1 m_337) rfl rfl rfl (by decide +kernel) ⟨Nat.le_of_ble_eq_true rfl, Nat.le_of_ble_eq_true rfl⟩) (rd_V nW_ok hX hK hP (ci := 1) (q0 := 0) rfl rfl) rfl rfl hl.1 rfl (lv_room (Nat.le_of_ble_eq_true rfl)) dP_moveStarts_35 ⟨Nat.zero_le _, Nat.zero_le _⟩) ?_
        refine W.eq (g2 := F0 m 38 ls [.int (sgM P.K r j), .int (nI T2.w + P.L r + nI j), .ref (ad 0)]) rfl ?_
        refine lv_ineg hx hb dP_moveStarts_38 ?_
        refine lv_i2l (v := (-(sgM P.K r j)).toInt64) hx hb dP_moveStarts_39 rfl ?_
        refine lv_lload_n hx hb dP_moveStarts_40 rfl (lv_at hl 3 rfl) ?_
        refine lv_lmul hx hb dP_moveStarts_41 ?_
        refine wr_call (X := PW ad k P ++ FW ad k F) (va_runVN (As := [.int (nI T2.w + P.L r + nI j), .long (((-(sgM P.K r j)).toInt64) * b)]) (rest := []) ⟨hx, hb, hml, hown, hta⟩ (c_T_moveCopied l dC dI ad k T2 H.size (nI T2.w + P.L r + nI j) (((-(sgM P.K r j)).toInt64) * b) (by first | omega | exact hw | exact hh) (by first | omega | exact hw | exact hh)) ⟨(va_cnB 2 hta (gC m_341) rfl rfl rfl (hX _ nw_8) (hta _ m_2) (by decide +kernel) ⟨Nat.le_of_ble_eq_true rfl, Nat.le_of_ble_eq_true rfl⟩), hta _ m_340, hta _ mp_18⟩ (wr_V xT_ok trivial (hK.sub [5, 6, 7, 8, 9] rfl) (hP.sub [6, 7, 8, 9, 10, 11] rfl) (hD.sub [6, 7, 8, 9, 10, 11] (by decide) rfl) (ci := 0) (q0 := 0) rfl rfl) rfl rfl hl.1 rfl (lv_room (Nat.le_of_ble_eq_true rfl)) dP_moveStarts_42 ⟨Nat.zero_le _, Nat.zero_le _⟩) hP hD hS hA rfl (fun H locs hP hD hS => ?_)
        have hP : va_P (dC, dI) vwCl (PW ad k P ++ (FW ad k F ++ TW ad k (ts T2.C T2.I T2.O T2.G (mcM T2 (nI T2.w + P.L r + nI j) (((-(sgM P.K r j)).toInt64) * b)) T2.w T2.h T2.d))) H := hP
        have hD : va_D A (PW ad k P ++ (FW ad k F ++ TW ad k (ts T2.C T2.I T2.O T2.G (mcM T2 (nI T2.w + P.L r + nI j) (((-(sgM P.K r j)).toInt64) * b)) T2.w T2.h T2.d))) := hD
        refine W.eq (g2 := F0 m 45 ls []) rfl ?_
        refine lv_iinc (v := nI (j + 1)) (lv' := [(4, .int (nI (j + 1))), (0, .ref (ad 7)), (1, .int (nI r)), (2, .long b)]) hx hb dP_moveStarts_45 hl (k := 0) rfl (nI_add j 1) (by decide) rfl (fun ls hl => ?_)
        refine lv_goto (tgt := 10) hx hb dP_moveStarts_48 (by decide) ?_
        exact ih (j + 1) (ts T2.C T2.I T2.O T2.G (mcM T2 (nI T2.w + P.L r + nI j) (((-(sgM P.K r j)).toInt64) * b)) T2.w T2.h T2.d) H locs ls (by omega) hw2 hh2 (by rw [← hq]; rfl) hP hD hS (lv_sub hl [0, 1, 2, 3] rfl)
  exact loop10 (lnM P.K r) 0 (ts T.C T.I T.O T.G (csL T.C 0 (T.h + 1) T.S) T.w T.h T.d) H locs ls (by omega) rfl rfl rfl hP hD hS (lv_sub hl [0, 1, 2, 3] rfl)
