set_option maxHeartbeats 4000000 in
set_option maxRecDepth 100000 in
theorem c_P_run (l : Launch) (dC : Nat → ClassId) (dI : Nat → Nat → Nat) (ad : Nat → Nat) (k : Nat → ClassId) (P : PS) (F : Nat → Int32) (T : TS) (sz : Nat) (mo : Nat) (hw : T.w ≤ 12) (hh : T.h ≤ 24) (hro : P.rows ≤ 12) (hri : P.rin ≤ P.rows) (hmo : mo ≤ 1000) : Met l yP_run wP_run ({ frames := 5, cells := 0, slots := 0, locals := 116 }) (wPc [.ref (ad 7), .int (nI mo)] sz (dC, dI) vwCl (PW ad k P ++ (FW ad k F ++ TW ad k T)) (PK k ++ (FK k ++ TK k)) nW) (wQ (some (.int ((ruP P F T mo).1))) (dC, dI) vwCl (PW ad k (ps ((ruP P F T mo).2.1.K) ((ruP P F T mo).2.1.V) ((ruP P F T mo).2.1.B) ((ruP P F T mo).2.1.L) ((ruP P F T mo).2.1.wk) ((ruP P F T mo).2.1.rows) ((ruP P F T mo).2.1.rin) ((ruP P F T mo).2.1.stp) ((ruP P F T mo).2.1.run) ((ruP P F T mo).2.1.lat)) ++ (FW ad k F ++ TW ad k ((ruP P F T mo).2.2))) (va_A (PW ad k P ++ (FW ad k F ++ TW ad k T)) sz)) 0 0 (va_A (PW ad k P ++ (FW ad k F ++ TW ad k T)) sz) := by
  refine Met.ofW (cc := bP_run) (maxL := 2) (ret := (some .int)) (by decide) rfl ?_
  intro p e s m args below meth c s₁ B hml hv
  obtain ⟨rfl, hsz, hP, hK, hD0, hX⟩ := hv
  have hx := B.exec
  have hb := B.bytes
  have hr := B.returns
  have hts := atoms_spec (ws := wP_run) B.pre
  have hta : ∀ w ∈ AW, w.before _ s = true := fun w h => hts w (List.mem_cons_of_mem _ h)
  have hown : s.vm.findClass RP = some m.cls := findClass_of_methodNamed B.named
  have hlocks := B.notSynchronized
  subst hsz
  have hD := hD0.self (sz := s.heap.size)
  generalize hAe : va_A (PW ad k P ++ (FW ad k F ++ TW ad k T)) s.heap.size = A at hD ⊢
  have hA : ∀ q : Nat, s.heap.size ≤ q → A q := fun q h => by rw [← hAe]; exact Or.inr h
  have hS : va_S A s.heap s.heap [] := va_S.rf
  have hl := lv_entry ([.ref (ad 7), .int (nI mo)]) (n := 2) (Nat.le_of_ble_eq_true rfl)
  rw [lg_entry_eq]
  generalize (lg_sl ([.ref (ad 7), .int (nI mo)]) ++ List.replicate (2 - (lg_sl ([.ref (ad 7), .int (nI mo)])).length) Slot.unset).toArray = ls at hl ⊢
  have hl : lv_has ls 2 [(0, .ref (ad 7)), (1, .int (nI mo))] := hl
  refine lv_iload_n hx hb dP_run_0 rfl (lv_at hl 1 rfl) ?_
  refine lv_if_lt (tgt := 11) hx hb dP_run_1 (by decide) (fun h1 => ?_) (fun h1 => ?_)
  · exact absurd h1 (nI_pos (by omega))
  · refine lv_iload_n hx hb dP_run_4 rfl (lv_at hl 1 rfl) ?_
    refine lv_sipush (v := nI 1000) hx hb dP_run_5 (by decide) ?_
    refine ni_le (tgt := 21) hx hb dP_run_8 (by decide) (by omega) (by omega) (fun c_1 => ?_) (fun c_1 => ?_)
    · refine lv_aload_n hx hb dP_run_21 rfl (lv_at hl 0 rfl) ?_
      refine lv_iconst (v := nI 1) hx hb dP_run_22 (by decide) ?_
      refine va_put (D := (dC, dI)) (ci := 1) (v := .int (nI 1)) (ty := .boolean) (C := RP) (T := FP) (N := 12) hx hb hta iP tP tP_ok nP hown hK hP hD hS 0 rfl rfl 10 (by decide) (hta _ m_73) (fun _ h9 => h9) rfl (by decide +kernel) rfl rfl (Nat.le_of_ble_eq_true rfl) dP_run_23 (fun H locs hP hD hS => ?_)
      have hP : va_P (dC, dI) vwCl (PW ad k (ps P.K P.V P.B P.L P.wk P.rows P.rin P.stp true P.lat) ++ (FW ad k F ++ TW ad k T)) H := hP
      have hD : va_D A (PW ad k (ps P.K P.V P.B P.L P.wk P.rows P.rin P.stp true P.lat) ++ (FW ad k F ++ TW ad k T)) := hD
      refine lv_aload_n hx hb dP_run_26 rfl (lv_at hl 0 rfl) ?_
      refine lv_aload_n hx hb dP_run_27 rfl (lv_at hl 0 rfl) ?_
      refine wr_call (X := ([] : va_W)) (va_runV (As := []) (rest := [.ref (ad 7)]) ⟨hx, hb, hml, hown, hta⟩ (c_P_bringRows l dC dI ad k (ps P.K P.V P.B P.L P.wk P.rows P.rin P.stp true P.lat) F T H.size hw hh hro hri) (cwV 0 hta (gV m_363 m_365 mp_21 m_1 m_366) rfl rfl rfl (by decide +kernel) ⟨Nat.le_of_ble_eq_true rfl, Nat.le_of_ble_eq_true rfl⟩) (wr_V nW_ok hX hK hP hD (ci := 1) (q0 := 0) rfl rfl) rfl rfl hl.1 rfl (lv_room (Nat.le_of_ble_eq_true rfl)) dP_run_28 ⟨Nat.zero_le _, Nat.zero_le _⟩) hP hD hS hA rfl (fun H locs hP hD hS => ?_)
      have hP : va_P (dC, dI) vwCl (PW ad k (ps P.K P.V P.B ((bwL P.K P.B F P.rin (P.rows - P.rin) T P.L P.rin).2.2.1) P.wk P.rows ((bwL P.K P.B F P.rin (P.rows - P.rin) T P.L P.rin).2.2.2) P.stp true P.lat) ++ (FW ad k F ++ TW ad k ((bwL P.K P.B F P.rin (P.rows - P.rin) T P.L P.rin).2.1))) H := hP
      have hD : va_D A (PW ad k (ps P.K P.V P.B ((bwL P.K P.B F P.rin (P.rows - P.rin) T P.L P.rin).2.2.1) P.wk P.rows ((bwL P.K P.B F P.rin (P.rows - P.rin) T P.L P.rin).2.2.2) P.stp true P.lat) ++ (FW ad k F ++ TW ad k ((bwL P.K P.B F P.rin (P.rows - P.rin) T P.L P.rin).2.1))) := hD
      refine W.eq (g2 := F0 m 31 ls [.int (bI (bwL P.K P.B F P.rin (P.rows - P.rin) T P.L P.rin).1), .ref (ad 7)]) rfl ?_
      refine lb_eq (tgt := 42) hx hb dP_run_31 (by decide) (fun h3 => ?_) (fun h3 => ?_)
      · have e9 : ruP P F T mo = (3, ruPF P F T, (bwP P F T).2.1) := if_neg (by rw [show (bwP P F T).1 = false from h3]; decide)
        refine lv_iconst (v := 3) hx hb dP_run_42 (by decide) ?_
        refine va_put (D := (dC, dI)) (ci := 1) (v := .int 3) (ty := .int) (C := RP) (T := FP) (N := 12) hx hb hta iP tP tP_ok nP hown hK hP hD hS 0 rfl rfl 11 (by decide) (hta _ m_74) (fun _ h9 => h9) rfl (by decide +kernel) rfl rfl (Nat.le_of_ble_eq_true rfl) dP_run_43 (fun H locs hP hD hS => ?_)
        have hP : va_P (dC, dI) vwCl (PW ad k (ps P.K P.V P.B ((bwL P.K P.B F P.rin (P.rows - P.rin) T P.L P.rin).2.2.1) P.wk P.rows ((bwL P.K P.B F P.rin (P.rows - P.rin) T P.L P.rin).2.2.2) P.stp true 3) ++ (FW ad k F ++ TW ad k ((bwL P.K P.B F P.rin (P.rows - P.rin) T P.L P.rin).2.1))) H := hP
        have hD : va_D A (PW ad k (ps P.K P.V P.B ((bwL P.K P.B F P.rin (P.rows - P.rin) T P.L P.rin).2.2.1) P.wk P.rows ((bwL P.K P.B F P.rin (P.rows - P.rin) T P.L P.rin).2.2.2) P.stp true 3) ++ (FW ad k F ++ TW ad k ((bwL P.K P.B F P.rin (P.rows - P.rin) T P.L P.rin).2.1))) := hD
        refine lv_aload_n hx hb dP_run_46 rfl (lv_at hl 0 rfl) ?_
        refine va_get (D := (dC, dI)) (ci := 1) (v := .int 3) (C := RP) (T := FP) (N := 12) hx hb hta iP hown hK hP 0 rfl rfl 11 (by decide) (hta _ m_74) (fun _ h9 => h9) rfl dP_run_47 ?_
        exact W.iret (v := 3) hx hb hr (fun t ht hW => ⟨congrArg (fun z => Outcome.returned (some (.int z))) (by first | (rw [e9]; done) | (rw [e9]; rfl)), by rw [ht]; exact (by rw [e9]; exact hP), hS.F ht⟩) hS.2.2 dP_run_50
      · have e9 : ruP P F T mo = ((dsP P F T mo).1, ruPT P F T mo, (dsP P F T mo).2.1) := if_pos h3
        refine lv_aload_n hx hb dP_run_34 rfl (lv_at hl 0 rfl) ?_
        refine lv_iload_n hx hb dP_run_35 rfl (lv_at hl 1 rfl) ?_
        refine wr_call (X := ([] : va_W)) (va_runV (As := [.int (nI mo)]) (rest := [.ref (ad 7)]) ⟨hx, hb, hml, hown, hta⟩ (c_P_doSteps l dC dI ad k (ps P.K P.V P.B ((bwL P.K P.B F P.rin (P.rows - P.rin) T P.L P.rin).2.2.1) P.wk P.rows ((bwL P.K P.B F P.rin (P.rows - P.rin) T P.L P.rin).2.2.2) P.stp true P.lat) F ((bwL P.K P.B F P.rin (P.rows - P.rin) T P.L P.rin).2.1) H.size mo (by rw [bwL_w]; exact hw) (bwL_h hh) hmo) (cwV 1 hta (gV m_390 m_392 mp_27 m_1 m_393) rfl rfl rfl (by decide +kernel) ⟨Nat.le_of_ble_eq_true rfl, Nat.le_of_ble_eq_true rfl⟩) (wr_V nW_ok hX hK hP hD (ci := 1) (q0 := 0) rfl rfl) rfl rfl hl.1 rfl (lv_room (Nat.le_of_ble_eq_true rfl)) dP_run_36 ⟨Nat.zero_le _, Nat.zero_le _⟩) hP hD hS hA rfl (fun H locs hP hD hS => ?_)
        have hP : va_P (dC, dI) vwCl (PW ad k (ps P.K P.V P.B ((bwL P.K P.B F P.rin (P.rows - P.rin) T P.L P.rin).2.2.1) P.wk P.rows ((bwL P.K P.B F P.rin (P.rows - P.rin) T P.L P.rin).2.2.2) ((dsL (mo + 1) ((bwL P.K P.B F P.rin (P.rows - P.rin) T P.L P.rin).2.1) P.stp).2.2) true P.lat) ++ (FW ad k F ++ TW ad k ((dsL (mo + 1) ((bwL P.K P.B F P.rin (P.rows - P.rin) T P.L P.rin).2.1) P.stp).2.1))) H := hP
        have hD : va_D A (PW ad k (ps P.K P.V P.B ((bwL P.K P.B F P.rin (P.rows - P.rin) T P.L P.rin).2.2.1) P.wk P.rows ((bwL P.K P.B F P.rin (P.rows - P.rin) T P.L P.rin).2.2.2) ((dsL (mo + 1) ((bwL P.K P.B F P.rin (P.rows - P.rin) T P.L P.rin).2.1) P.stp).2.2) true P.lat) ++ (FW ad k F ++ TW ad k ((dsL (mo + 1) ((bwL P.K P.B F P.rin (P.rows - P.rin) T P.L P.rin).2.1) P.stp).2.1))) := hD
        refine W.eq (g2 := F0 m 39 ls [.int ((dsL (mo + 1) ((bwL P.K P.B F P.rin (P.rows - P.rin) T P.L P.rin).2.1) P.stp).1), .ref (ad 7)]) rfl ?_
        refine lv_goto (tgt := 43) hx hb dP_run_39 (by decide) ?_
        refine va_put (D := (dC, dI)) (ci := 1) (v := .int ((dsL (mo + 1) ((bwL P.K P.B F P.rin (P.rows - P.rin) T P.L P.rin).2.1) P.stp).1)) (ty := .int) (C := RP) (T := FP) (N := 12) hx hb hta iP tP tP_ok nP hown hK hP hD hS 0 rfl rfl 11 (by decide) (hta _ m_74) (fun _ h9 => h9) rfl (by decide +kernel) rfl rfl (Nat.le_of_ble_eq_true rfl) dP_run_43 (fun H locs hP hD hS => ?_)
        have hP : va_P (dC, dI) vwCl (PW ad k (ps P.K P.V P.B ((bwL P.K P.B F P.rin (P.rows - P.rin) T P.L P.rin).2.2.1) P.wk P.rows ((bwL P.K P.B F P.rin (P.rows - P.rin) T P.L P.rin).2.2.2) ((dsL (mo + 1) ((bwL P.K P.B F P.rin (P.rows - P.rin) T P.L P.rin).2.1) P.stp).2.2) true ((dsL (mo + 1) ((bwL P.K P.B F P.rin (P.rows - P.rin) T P.L P.rin).2.1) P.stp).1)) ++ (FW ad k F ++ TW ad k ((dsL (mo + 1) ((bwL P.K P.B F P.rin (P.rows - P.rin) T P.L P.rin).2.1) P.stp).2.1))) H := hP
        have hD : va_D A (PW ad k (ps P.K P.V P.B ((bwL P.K P.B F P.rin (P.rows - P.rin) T P.L P.rin).2.2.1) P.wk P.rows ((bwL P.K P.B F P.rin (P.rows - P.rin) T P.L P.rin).2.2.2) ((dsL (mo + 1) ((bwL P.K P.B F P.rin (P.rows - P.rin) T P.L P.rin).2.1) P.stp).2.2) true ((dsL (mo + 1) ((bwL P.K P.B F P.rin (P.rows - P.rin) T P.L P.rin).2.1) P.stp).1)) ++ (FW ad k F ++ TW ad k ((dsL (mo + 1) ((bwL P.K P.B F P.rin (P.rows - P.rin) T P.L P.rin).2.1) P.stp).2.1))) := hD
        refine lv_aload_n hx hb dP_run_46 rfl (lv_at hl 0 rfl) ?_
        refine va_get (D := (dC, dI)) (ci := 1) (v := .int ((dsL (mo + 1) ((bwL P.K P.B F P.rin (P.rows - P.rin) T P.L P.rin).2.1) P.stp).1)) (C := RP) (T := FP) (N := 12) hx hb hta iP hown hK hP 0 rfl rfl 11 (by decide) (hta _ m_74) (fun _ h9 => h9) rfl dP_run_47 ?_
        exact W.iret (v := ((dsL (mo + 1) ((bwL P.K P.B F P.rin (P.rows - P.rin) T P.L P.rin).2.1) P.stp).1)) hx hb hr (fun t ht hW => ⟨congrArg (fun z => Outcome.returned (some (.int z))) (by first | (rw [e9]; done) | (rw [e9]; rfl)), by rw [ht]; exact (by rw [e9]; exact hP), hS.F ht⟩) hS.2.2 dP_run_50
    · exfalso; omega
