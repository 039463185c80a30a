set_option maxHeartbeats 4000000 in
set_option maxRecDepth 100000 in
theorem c_P_needColumn (l : Launch) (dC : Nat → ClassId) (dI : Nat → Nat → Nat) (ad : Nat → Nat) (k : Nat → ClassId) (P : PS) (F : Nat → Int32) (T : TS) (r : Nat) (hw : T.w ≤ 12) (hr9 : r < T.w) : Met l yP_needColumn wP_needColumn ({ frames := 0, cells := 0, slots := 0, locals := 0 }) (rPc [.ref (ad 7), .int (nI r)] (dC, dI) vwCl (PW ad k P ++ (FW ad k F ++ TW ad k T)) (PK k ++ (FK k ++ TK k)) nW) (rQ none) 0 0 (fun _ => False) := by
  refine Met.ofW (cc := bP_needColumn) (maxL := 2) (ret := none) (by decide) rfl ?_
  intro p e s m args below meth c s₁ B hml hv
  obtain ⟨rfl, hP, hK, hX⟩ := hv
  have hx := B.exec
  have hb := B.bytes
  have hr := B.returns
  have hts := atoms_spec (ws := wP_needColumn) B.pre
  have hta : ∀ w ∈ AW, w.before _ s = true := fun w h => hts w (List.mem_cons_of_mem _ h)
  have hown : s.vm.findClass RP = some m.cls := findClass_of_methodNamed B.named
  have hlocks := B.notSynchronized
  have hl := lv_entry ([.ref (ad 7), .int (nI r)]) (n := 2) (Nat.le_of_ble_eq_true rfl)
  rw [lg_entry_eq]
  generalize (lg_sl ([.ref (ad 7), .int (nI r)]) ++ List.replicate (2 - (lg_sl ([.ref (ad 7), .int (nI r)])).length) Slot.unset).toArray = ls at hl ⊢
  have hl : lv_has ls 2 [(0, .ref (ad 7)), (1, .int (nI r))] := hl
  refine lv_iload_n hx hb dP_needColumn_0 rfl (lv_at hl 1 rfl) ?_
  refine lv_if_lt (tgt := 15) hx hb dP_needColumn_1 (by decide) (fun h1 => ?_) (fun h1 => ?_)
  · exact absurd h1 (nI_pos (by omega))
  · refine lv_iload_n hx hb dP_needColumn_4 rfl (lv_at hl 1 rfl) ?_
    refine lv_aload_n hx hb dP_needColumn_5 rfl (lv_at hl 0 rfl) ?_
    refine va_get (D := (dC, dI)) (ci := 1) (v := .ref (ad 0)) (C := RP) (T := FP) (N := 12) hx hb hta iP hown hK hP 0 rfl rfl 6 (by decide) (hta _ m_69) (fun _ h9 => h9) rfl dP_needColumn_6 ?_
    refine va_getN (D := (dC, dI)) (ci := 0) (v := .int (nI T.w)) (C := RT) (T := FT) (N := 8) hx hb hta iT hown hK hP 6 rfl rfl 5 (by decide) (va_Nw.use rfl (hX _ nw_2)) (fun _ h9 => h9) rfl dP_needColumn_9 ?_
    refine ni_lt (tgt := 25) hx hb dP_needColumn_12 (by decide) (by omega) (by omega) (fun c_1 => ?_) (fun c_1 => ?_)
    · exact W.vret hx hb hr (fun t ht hW => ⟨rfl, ht⟩) (fun q h => nomatch h) dP_needColumn_25
    · exfalso; omega

set_option maxHeartbeats 4000000 in
set_option maxRecDepth 100000 in
theorem c_P_needRow (l : Launch) (dC : Nat → ClassId) (dI : Nat → Nat → Nat) (ad : Nat → Nat) (k : Nat → ClassId) (P : PS) (F : Nat → Int32) (T : TS) (r : Nat) (hro : P.rows ≤ 12) (hr9 : r < P.rows) : Met l yP_needRow wP_needRow ({ frames := 0, cells := 0, slots := 0, locals := 0 }) (rPc [.ref (ad 7), .int (nI r)] (dC, dI) vwCl (PW ad k P ++ (FW ad k F ++ TW ad k T)) (PK k ++ (FK k ++ TK k)) nW) (rQ none) 0 0 (fun _ => False) := by
  refine Met.ofW (cc := bP_needRow) (maxL := 2) (ret := none) (by decide) rfl ?_
  intro p e s m args below meth c s₁ B hml hv
  obtain ⟨rfl, hP, hK, hX⟩ := hv
  have hx := B.exec
  have hb := B.bytes
  have hr := B.returns
  have hts := atoms_spec (ws := wP_needRow) B.pre
  have hta : ∀ w ∈ AW, w.before _ s = true := fun w h => hts w (List.mem_cons_of_mem _ h)
  have hown : s.vm.findClass RP = some m.cls := findClass_of_methodNamed B.named
  have hlocks := B.notSynchronized
  have hl := lv_entry ([.ref (ad 7), .int (nI r)]) (n := 2) (Nat.le_of_ble_eq_true rfl)
  rw [lg_entry_eq]
  generalize (lg_sl ([.ref (ad 7), .int (nI r)]) ++ List.replicate (2 - (lg_sl ([.ref (ad 7), .int (nI r)])).length) Slot.unset).toArray = ls at hl ⊢
  have hl : lv_has ls 2 [(0, .ref (ad 7)), (1, .int (nI r))] := hl
  refine lv_iload_n hx hb dP_needRow_0 rfl (lv_at hl 1 rfl) ?_
  refine lv_if_lt (tgt := 12) hx hb dP_needRow_1 (by decide) (fun h1 => ?_) (fun h1 => ?_)
  · exact absurd h1 (nI_pos (by omega))
  · refine lv_iload_n hx hb dP_needRow_4 rfl (lv_at hl 1 rfl) ?_
    refine lv_aload_n hx hb dP_needRow_5 rfl (lv_at hl 0 rfl) ?_
    refine va_get (D := (dC, dI)) (ci := 1) (v := .int (nI P.rows)) (C := RP) (T := FP) (N := 12) hx hb hta iP hown hK hP 0 rfl rfl 7 (by decide) (hta _ m_70) (fun _ h9 => h9) rfl dP_needRow_6 ?_
    refine ni_lt (tgt := 22) hx hb dP_needRow_9 (by decide) (by omega) (by omega) (fun c_1 => ?_) (fun c_1 => ?_)
    · exact W.vret hx hb hr (fun t ht hW => ⟨rfl, ht⟩) (fun q h => nomatch h) dP_needRow_22
    · exfalso; omega

set_option maxHeartbeats 4000000 in
set_option maxRecDepth 100000 in
theorem c_P_needRoomForRow (l : Launch) (dC : Nat → ClassId) (dI : Nat → Nat → Nat) (ad : Nat → Nat) (k : Nat → ClassId) (P : PS) (F : Nat → Int32) (T : TS)  (hro : P.rows < 12) : Met l yP_needRoomForRow wP_needRoomForRow ({ frames := 0, cells := 0, slots := 0, locals := 0 }) (rPc [.ref (ad 7)] (dC, dI) vwCl (PW ad k P ++ (FW ad k F ++ TW ad k T)) (PK k ++ (FK k ++ TK k)) nW) (rQ none) 0 0 (fun _ => False) := by
  refine Met.ofW (cc := bP_needRoomForRow) (maxL := 1) (ret := none) (by decide) rfl ?_
  intro p e s m args below meth c s₁ B hml hv
  obtain ⟨rfl, hP, hK, hX⟩ := hv
  have hx := B.exec
  have hb := B.bytes
  have hr := B.returns
  have hts := atoms_spec (ws := wP_needRoomForRow) B.pre
  have hta : ∀ w ∈ AW, w.before _ s = true := fun w h => hts w (List.mem_cons_of_mem _ h)
  have hown : s.vm.findClass RP = some m.cls := findClass_of_methodNamed B.named
  have hlocks := B.notSynchronized
  have hl := lv_entry ([.ref (ad 7)]) (n := 1) (Nat.le_of_ble_eq_true rfl)
  rw [lg_entry_eq]
  generalize (lg_sl ([.ref (ad 7)]) ++ List.replicate (1 - (lg_sl ([.ref (ad 7)])).length) Slot.unset).toArray = ls at hl ⊢
  have hl : lv_has ls 1 [(0, .ref (ad 7))] := hl
  refine lv_aload_n hx hb dP_needRoomForRow_0 rfl (lv_at hl 0 rfl) ?_
  refine va_get (D := (dC, dI)) (ci := 1) (v := .int (nI P.rows)) (C := RP) (T := FP) (N := 12) hx hb hta iP hown hK hP 0 rfl rfl 7 (by decide) (hta _ m_70) (fun _ h9 => h9) rfl dP_needRoomForRow_1 ?_
  refine lv_bipush (v := nI 12) hx hb dP_needRoomForRow_4 (by decide) ?_
  refine ni_lt (tgt := 19) hx hb dP_needRoomForRow_6 (by decide) (by omega) (by omega) (fun c_1 => ?_) (fun c_1 => ?_)
  · exact W.vret hx hb hr (fun t ht hW => ⟨rfl, ht⟩) (fun q h => nomatch h) dP_needRoomForRow_19
  · exfalso; omega

set_option maxHeartbeats 4000000 in
set_option maxRecDepth 100000 in
theorem c_P_needRight (l : Launch) (dC : Nat → ClassId) (dI : Nat → Nat → Nat) (ad : Nat → Nat) (k : Nat → ClassId) (b : Int64) (hb1 : ¬ b < -1000000) (hb2 : ¬ 1000000 < b) : Met l yP_needRight wP_needRight ({ frames := 0, cells := 0, slots := 0, locals := 0 }) (rPc [.long b] (dC, dI) vwCl ([]) ([]) xT) (rQ none) 0 0 (fun _ => False) := by
  refine Met.ofW (cc := bP_needRight) (maxL := 2) (ret := none) (by decide) rfl ?_
  intro p e s m args below meth c s₁ B hml hv
  obtain ⟨rfl, hP, hK, hX⟩ := hv
  have hx := B.exec
  have hb := B.bytes
  have hr := B.returns
  have hts := atoms_spec (ws := wP_needRight) B.pre
  have hta : ∀ w ∈ AW, w.before _ s = true := fun w h => hts w (List.mem_cons_of_mem _ h)
  have hown : s.vm.findClass RP = some m.cls := findClass_of_methodNamed B.named
  have hlocks := B.notSynchronized
  have hl := lv_entry ([.long b]) (n := 2) (Nat.le_of_ble_eq_true rfl)
  rw [lg_entry_eq]
  generalize (lg_sl ([.long b]) ++ List.replicate (2 - (lg_sl ([.long b])).length) Slot.unset).toArray = ls at hl ⊢
  have hl : lv_has ls 2 [(0, .long b)] := hl
  refine lv_lload_n hx hb dP_needRight_0 rfl (lv_at hl 0 rfl) ?_
  refine lv_ldc2 (v := (-1000000)) hx hb hown (hta _ m_261) dP_needRight_1 ?_
  refine ll_lt (tgt := 16) hx hb dP_needRight_4 dP_needRight_5 (by decide) (fun h1 => ?_) (fun h1 => ?_)
  · exact absurd h1 hb1
  · refine lv_lload_n hx hb dP_needRight_8 rfl (lv_at hl 0 rfl) ?_
    refine lv_ldc2 (v := 1000000) hx hb hown (hta _ m_262) dP_needRight_9 ?_
    refine ll_le (tgt := 26) hx hb dP_needRight_12 dP_needRight_13 (by decide) (fun h2 => ?_) (fun h2 => ?_)
    · exact W.vret hx hb hr (fun t ht hW => ⟨rfl, ht⟩) (fun q h => nomatch h) dP_needRight_26
    · exact absurd h2 hb2

set_option maxHeartbeats 4000000 in
set_option maxRecDepth 100000 in
theorem c_P_needPart (l : Launch) (dC : Nat → ClassId) (dI : Nat → Nat → Nat) (ad : Nat → Nat) (k : Nat → ClassId) (pt : Int32) (hpt : pt = 0 ∨ pt = 1) : Met l yP_needPart wP_needPart ({ frames := 0, cells := 0, slots := 0, locals := 0 }) (rPc [.int pt] (dC, dI) vwCl ([]) ([]) xT) (rQ none) 0 0 (fun _ => False) := by
  refine Met.ofW (cc := bP_needPart) (maxL := 1) (ret := none) (by decide) rfl ?_
  intro p e s m args below meth c s₁ B hml hv
  obtain ⟨rfl, hP, hK, hX⟩ := hv
  have hx := B.exec
  have hb := B.bytes
  have hr := B.returns
  have hts := atoms_spec (ws := wP_needPart) B.pre
  have hta : ∀ w ∈ AW, w.before _ s = true := fun w h => hts w (List.mem_cons_of_mem _ h)
  have hown : s.vm.findClass RP = some m.cls := findClass_of_methodNamed B.named
  have hlocks := B.notSynchronized
  have hl := lv_entry ([.int pt]) (n := 1) (Nat.le_of_ble_eq_true rfl)
  rw [lg_entry_eq]
  generalize (lg_sl ([.int pt]) ++ List.replicate (1 - (lg_sl ([.int pt])).length) Slot.unset).toArray = ls at hl ⊢
  have hl : lv_has ls 1 [(0, .int pt)] := hl
  refine lv_iload_n hx hb dP_needPart_0 rfl (lv_at hl 0 rfl) ?_
  refine lv_if_eq (tgt := 19) hx hb dP_needPart_1 (by decide) (fun h1 => ?_) (fun h1 => ?_)
  · exact W.vret hx hb hr (fun t ht hW => ⟨rfl, ht⟩) (fun q h => nomatch h) dP_needPart_19
  · refine lv_iload_n hx hb dP_needPart_4 rfl (lv_at hl 0 rfl) ?_
    refine lv_iconst (v := 1) hx hb dP_needPart_5 (by decide) ?_
    refine lv_icmp_eq (tgt := 19) hx hb dP_needPart_6 (by decide) (fun h2 => ?_) (fun h2 => ?_)
    · exact W.vret hx hb hr (fun t ht hW => ⟨rfl, ht⟩) (fun q h => nomatch h) dP_needPart_19
    · exact absurd hpt (fun z => z.elim h1 h2)

set_option maxHeartbeats 4000000 in
set_option maxRecDepth 100000 in
theorem c_P_column (l : Launch) (dC : Nat → ClassId) (dI : Nat → Nat → Nat) (ad : Nat → Nat) (k : Nat → ClassId) (P : PS) (F : Nat → Int32) (T : TS) (sz : Nat) (v : Int64) (hrn : P.run = false) (hw : T.w < 12) (hv1 : ¬ v < 0) (hv2 : ¬ 1000 < v) : Met l yP_column wP_column ({ frames := 2, cells := 0, slots := 0, locals := 47 }) (wPc [.ref (ad 7), .long v] sz (dC, dI) vwCl (PW ad k P ++ (FW ad k F ++ TW ad k T)) (PK k ++ (FK k ++ TK k)) nW) (wQ (some (.int (nI T.w))) (dC, dI) vwCl (PW ad k P ++ (FW ad k F ++ TW ad k (ts (vp_updL T.C (0 * 13 + (T.w + 1)) v) T.I (upd T.O (T.w + 1) (nI T.w)) T.G T.S (T.w + 1) T.h T.d))) (va_A (PW ad k P ++ (FW ad k F ++ TW ad k T)) sz)) 0 0 (va_A (PW ad k P ++ (FW ad k F ++ TW ad k T)) sz) := by
  refine Met.ofW (cc := bP_column) (maxL := 3) (ret := (some .int)) (by decide) rfl ?_
  intro p e s m args below meth c s₁ B hml hv
  obtain ⟨rfl, hsz, hP, hK, hD0, hX⟩ := hv
  have hx := B.exec
  have hb := B.bytes
  have hr := B.returns
  have hts := atoms_spec (ws := wP_column) B.pre
  have hta : ∀ w ∈ AW, w.before _ s = true := fun w h => hts w (List.mem_cons_of_mem _ h)
  have hown : s.vm.findClass RP = some m.cls := findClass_of_methodNamed B.named
  have hlocks := B.notSynchronized
  subst hsz
  have hD := hD0.self (sz := s.heap.size)
  generalize hAe : va_A (PW ad k P ++ (FW ad k F ++ TW ad k T)) s.heap.size = A at hD ⊢
  have hA : ∀ q : Nat, s.heap.size ≤ q → A q := fun q h => by rw [← hAe]; exact Or.inr h
  have hS : va_S A s.heap s.heap [] := va_S.rf
  have hl := lv_entry ([.ref (ad 7), .long v]) (n := 3) (Nat.le_of_ble_eq_true rfl)
  rw [lg_entry_eq]
  generalize (lg_sl ([.ref (ad 7), .long v]) ++ List.replicate (3 - (lg_sl ([.ref (ad 7), .long v])).length) Slot.unset).toArray = ls at hl ⊢
  have hl : lv_has ls 3 [(0, .ref (ad 7)), (1, .long v)] := hl
  refine lv_aload_n hx hb dP_column_0 rfl (lv_at hl 0 rfl) ?_
  refine va_get (D := (dC, dI)) (ci := 1) (v := .int (bI P.run)) (C := RP) (T := FP) (N := 12) hx hb hta iP hown hK hP 0 rfl rfl 10 (by decide) (hta _ m_73) (fun _ h9 => h9) rfl dP_column_1 ?_
  refine lb_ne (tgt := 19) hx hb dP_column_4 (by decide) (fun h1 => ?_) (fun h1 => ?_)
  · exact absurd (hrn.symm.trans h1) (by decide)
  · refine lv_aload_n hx hb dP_column_7 rfl (lv_at hl 0 rfl) ?_
    refine va_get (D := (dC, dI)) (ci := 1) (v := .ref (ad 0)) (C := RP) (T := FP) (N := 12) hx hb hta iP hown hK hP 0 rfl rfl 6 (by decide) (hta _ m_69) (fun _ h9 => h9) rfl dP_column_8 ?_
    refine va_getN (D := (dC, dI)) (ci := 0) (v := .int (nI T.w)) (C := RT) (T := FT) (N := 8) hx hb hta iT hown hK hP 6 rfl rfl 5 (by decide) (va_Nw.use rfl (hX _ nw_2)) (fun _ h9 => h9) rfl dP_column_11 ?_
    refine lv_bipush (v := nI 12) hx hb dP_column_14 (by decide) ?_
    refine ni_lt (tgt := 29) hx hb dP_column_16 (by decide) (by omega) (by omega) (fun c_1 => ?_) (fun c_1 => ?_)
    · refine lv_lload_n hx hb dP_column_29 rfl (lv_at hl 1 rfl) ?_
      refine lv_lconst (v := 0) hx hb dP_column_30 (by decide) ?_
      refine ll_lt (tgt := 43) hx hb dP_column_31 dP_column_32 (by decide) (fun h2 => ?_) (fun h2 => ?_)
      · exact absurd h2 hv1
      · refine lv_lload_n hx hb dP_column_35 rfl (lv_at hl 1 rfl) ?_
        refine lv_ldc2 (v := 1000) hx hb hown (hta _ m_219) dP_column_36 ?_
        refine ll_le (tgt := 53) hx hb dP_column_39 dP_column_40 (by decide) (fun h3 => ?_) (fun h3 => ?_)
        · refine lv_aload_n hx hb dP_column_53 rfl (lv_at hl 0 rfl) ?_
          refine va_get (D := (dC, dI)) (ci := 1) (v := .ref (ad 0)) (C := RP) (T := FP) (N := 12) hx hb hta iP hown hK hP 0 rfl rfl 6 (by decide) (hta _ m_69) (fun _ h9 => h9) rfl dP_column_54 ?_
          refine lv_lload_n hx hb dP_column_57 rfl (lv_at hl 1 rfl) ?_
          refine wr_call (X := PW ad k P ++ FW ad k F) (va_runVN (As := [.long v]) (rest := []) ⟨hx, hb, hml, hown, hta⟩ (c_T_addColumn l dC dI ad k T s.heap.size v (by first | omega | exact hw | exact hh)) ⟨(va_cnB 1 hta (gC m_239) rfl rfl rfl (hX _ nw_6) (hta _ m_2) (by decide +kernel) ⟨Nat.le_of_ble_eq_true rfl, Nat.le_of_ble_eq_true rfl⟩), hta _ m_238, hta _ mp_7⟩ (wr_V xT_ok trivial (hK.sub [5, 6, 7, 8, 9] rfl) (hP.sub [6, 7, 8, 9, 10, 11] rfl) (hD.sub [6, 7, 8, 9, 10, 11] (by decide) rfl) (ci := 0) (q0 := 0) rfl rfl) rfl rfl hl.1 rfl (lv_room (Nat.le_of_ble_eq_true rfl)) dP_column_58 ⟨Nat.zero_le _, Nat.zero_le _⟩) hP hD hS hA rfl (fun H locs hP hD hS => ?_)
          have hP : va_P (dC, dI) vwCl (PW ad k P ++ (FW ad k F ++ TW ad k (ts (vp_updL T.C (0 * 13 + (T.w + 1)) v) T.I (upd T.O (T.w + 1) (nI T.w)) T.G T.S (T.w + 1) T.h T.d))) H := hP
          have hD : va_D A (PW ad k P ++ (FW ad k F ++ TW ad k (ts (vp_updL T.C (0 * 13 + (T.w + 1)) v) T.I (upd T.O (T.w + 1) (nI T.w)) T.G T.S (T.w + 1) T.h T.d))) := hD
          refine W.eq (g2 := F0 m 61 ls [.int (nI T.w)]) rfl ?_
          exact W.iret (v := nI T.w) hx hb hr (fun t ht hW => ⟨rfl, by rw [ht]; exact hP, hS.F ht⟩) hS.2.2 dP_column_61
        · exact absurd h3 hv2
    · exfalso; omega

set_option maxHeartbeats 4000000 in
set_option maxRecDepth 100000 in
theorem c_P_row (l : Launch) (dC : Nat → ClassId) (dI : Nat → Nat → Nat) (ad : Nat → Nat) (k : Nat → ClassId) (P : PS) (F : Nat → Int32) (T : TS) (sz : Nat) (kd wk : Int32) (b : Int64) (hro : P.rows < 12) (hk1 : ¬ kd < 0) (hk2 : ¬ 2 < kd) (hw1 : ¬ wk < 0) (hw2 : wk < P.wk) (hb1 : ¬ b < -1000000) (hb2 : ¬ 1000000 < b) : Met l yP_row wP_row ({ frames := 1, cells := 0, slots := 0, locals := 25 }) (wPc [.ref (ad 7), .int kd, .int wk, .long b] sz (dC, dI) vwCl (PW ad k P ++ (FW ad k F ++ TW ad k T)) (PK k ++ (FK k ++ TK k)) nW) (wQ (some (.int (nI P.rows))) (dC, dI) vwCl (PW ad k (ps (upd P.K P.rows kd) (upd P.V P.rows wk) (vp_updL P.B P.rows b) P.L P.wk (P.rows + 1) P.rin P.stp P.run P.lat) ++ (FW ad k F ++ TW ad k T)) (va_A (PW ad k P ++ (FW ad k F ++ TW ad k T)) sz)) 0 0 (va_A (PW ad k P ++ (FW ad k F ++ TW ad k T)) sz) := by
  refine Met.ofW (cc := bP_row) (maxL := 5) (ret := (some .int)) (by decide) rfl ?_
  intro p e s m args below meth c s₁ B hml hv
  obtain ⟨rfl, hsz, hP, hK, hD0, hX⟩ := hv
  have hx := B.exec
  have hb := B.bytes
  have hr := B.returns
  have hts := atoms_spec (ws := wP_row) B.pre
  have hta : ∀ w ∈ AW, w.before _ s = true := fun w h => hts w (List.mem_cons_of_mem _ h)
  have hown : s.vm.findClass RP = some m.cls := findClass_of_methodNamed B.named
  have hlocks := B.notSynchronized
  subst hsz
  have hD := hD0.self (sz := s.heap.size)
  generalize hAe : va_A (PW ad k P ++ (FW ad k F ++ TW ad k T)) s.heap.size = A at hD ⊢
  have hA : ∀ q : Nat, s.heap.size ≤ q → A q := fun q h => by rw [← hAe]; exact Or.inr h
  have hS : va_S A s.heap s.heap [] := va_S.rf
  have hl := lv_entry ([.ref (ad 7), .int kd, .int wk, .long b]) (n := 5) (Nat.le_of_ble_eq_true rfl)
  rw [lg_entry_eq]
  generalize (lg_sl ([.ref (ad 7), .int kd, .int wk, .long b]) ++ List.replicate (5 - (lg_sl ([.ref (ad 7), .int kd, .int wk, .long b])).length) Slot.unset).toArray = ls at hl ⊢
  have hl : lv_has ls 5 [(0, .ref (ad 7)), (1, .int kd), (2, .int wk), (3, .long b)] := hl
  refine lv_aload_n hx hb dP_row_0 rfl (lv_at hl 0 rfl) ?_
  refine rd_call (va_runV (As := []) (rest := []) ⟨hx, hb, hml, hown, hta⟩ (c_P_needRoomForRow l dC dI ad k P F T (by first | omega | assumption)) (cwV 0 hta (gV m_251 m_253 mp_9 m_1 m_254) rfl rfl rfl (by decide +kernel) ⟨Nat.le_of_ble_eq_true rfl, Nat.le_of_ble_eq_true rfl⟩) (rd_V nW_ok hX hK hP (ci := 1) (q0 := 0) rfl rfl) rfl rfl hl.1 rfl (lv_room (Nat.le_of_ble_eq_true rfl)) dP_row_1 ⟨Nat.zero_le _, Nat.zero_le _⟩) ?_
  refine W.eq (g2 := F0 m 4 ls []) rfl ?_
  refine lv_iload_n hx hb dP_row_4 rfl (lv_at hl 1 rfl) ?_
  refine lv_if_lt (tgt := 13) hx hb dP_row_5 (by decide) (fun h1 => ?_) (fun h1 => ?_)
  · exact absurd h1 hk1
  · refine lv_iload_n hx hb dP_row_8 rfl (lv_at hl 1 rfl) ?_
    refine lv_iconst (v := 2) hx hb dP_row_9 (by decide) ?_
    refine li_le (tgt := 23) hx hb dP_row_10 (by decide) (fun h2 => ?_) (fun h2 => ?_)
    · refine lv_iload_n hx hb dP_row_23 rfl (lv_at hl 2 rfl) ?_
      refine lv_if_lt (tgt := 35) hx hb dP_row_24 (by decide) (fun h3 => ?_) (fun h3 => ?_)
      · exact absurd h3 hw1
      · refine lv_iload_n hx hb dP_row_27 rfl (lv_at hl 2 rfl) ?_
        refine lv_aload_n hx hb dP_row_28 rfl (lv_at hl 0 rfl) ?_
        refine va_get (D := (dC, dI)) (ci := 1) (v := .int P.wk) (C := RP) (T := FP) (N := 12) hx hb hta iP hown hK hP 0 rfl rfl 0 (by decide) (hta _ m_63) (fun _ h9 => h9) rfl dP_row_29 ?_
        refine lv_icmp_lt (tgt := 45) hx hb dP_row_32 (by decide) (fun h4 => ?_) (fun h4 => ?_)
        · refine lv_lload_n hx hb dP_row_45 rfl (lv_at hl 3 rfl) ?_
          refine rd_call (va_runS (As := [.long b]) (rest := []) ⟨hx, hb, hml, hown, hta⟩ (c_P_needRight l dC dI ad k b hb1 hb2) (cwS 1 hta (gS m_258 m_259 m_1 m_260) rfl rfl rfl (by decide +kernel) ⟨Nat.le_of_ble_eq_true rfl, Nat.le_of_ble_eq_true rfl⟩) (rd_S xT_ok trivial (hK.sub [] rfl) va_P_nil) rfl rfl hl.1 rfl (lv_room (Nat.le_of_ble_eq_true rfl)) dP_row_46 ⟨Nat.zero_le _, Nat.zero_le _⟩) ?_
          refine W.eq (g2 := F0 m 49 ls []) rfl ?_
          refine lv_aload_n hx hb dP_row_49 rfl (lv_at hl 0 rfl) ?_
          refine lv_iload_n hx hb dP_row_50 rfl (lv_at hl 1 rfl) ?_
          refine lv_iload_n hx hb dP_row_51 rfl (lv_at hl 2 rfl) ?_
          refine lv_lload_n hx hb dP_row_52 rfl (lv_at hl 3 rfl) ?_
          refine wr_call (X := ([] : va_W)) (va_runV (As := [.int kd, .int wk, .long b]) (rest := []) ⟨hx, hb, hml, hown, hta⟩ (c_P_addRow l dC dI ad k P F T s.heap.size kd wk b (by first | omega | exact hw | exact hh)) (cwV 3 hta (gV m_264 m_266 mp_10 m_1 m_267) rfl rfl rfl (by decide +kernel) ⟨Nat.le_of_ble_eq_true rfl, Nat.le_of_ble_eq_true rfl⟩) (wr_V nW_ok hX hK hP hD (ci := 1) (q0 := 0) rfl rfl) rfl rfl hl.1 rfl (lv_room (Nat.le_of_ble_eq_true rfl)) dP_row_53 ⟨Nat.zero_le _, Nat.zero_le _⟩) hP hD hS hA rfl (fun H locs hP hD hS => ?_)
          have hP : va_P (dC, dI) vwCl (PW ad k (ps (upd P.K P.rows kd) (upd P.V P.rows wk) (vp_updL P.B P.rows b) P.L P.wk (P.rows + 1) P.rin P.stp P.run P.lat) ++ (FW ad k F ++ TW ad k T)) H := hP
          have hD : va_D A (PW ad k (ps (upd P.K P.rows kd) (upd P.V P.rows wk) (vp_updL P.B P.rows b) P.L P.wk (P.rows + 1) P.rin P.stp P.run P.lat) ++ (FW ad k F ++ TW ad k T)) := hD
          refine W.eq (g2 := F0 m 56 ls [.int (nI P.rows)]) rfl ?_
          exact W.iret (v := nI P.rows) hx hb hr (fun t ht hW => ⟨rfl, by rw [ht]; exact hP, hS.F ht⟩) hS.2.2 dP_row_56
        · exact absurd hw2 h4
    · exact absurd h2 hk2

set_option maxHeartbeats 4000000 in
set_option maxRecDepth 100000 in
theorem c_P_factor (l : Launch) (dC : Nat → ClassId) (dI : Nat → Nat → Nat) (ad : Nat → Nat) (k : Nat → ClassId) (P : PS) (F : Nat → Int32) (T : TS) (sz : Nat) (r j : Nat) (v : Int32) (hro : P.rows ≤ 12) (hr9 : r < P.rows) (hw : T.w ≤ 12) (hj9 : j < T.w) (hri : P.rin ≤ r) (hv1 : ¬ v < -1000) (hv2 : ¬ 1000 < v) : Met l yP_factor wP_factor ({ frames := 1, cells := 0, slots := 0, locals := 21 }) (wPc [.ref (ad 7), .int (nI r), .int (nI j), .int v] sz (dC, dI) vwCl (PW ad k P ++ (FW ad k F ++ TW ad k T)) (PK k ++ (FK k ++ TK k)) nW) (wQ (some (.int (F (r * 12 + j)))) (dC, dI) vwCl (PW ad k P ++ (FW ad k (upd F (r * 12 + j) v) ++ TW ad k T)) (va_A (PW ad k P ++ (FW ad k F ++ TW ad k T)) sz)) 0 0 (va_A (PW ad k P ++ (FW ad k F ++ TW ad k T)) sz) := by
  refine Met.ofW (cc := bP_factor) (maxL := 5) (ret := (some .int)) (by decide) rfl ?_
  intro p e s m args below meth c s₁ B hml hv
  obtain ⟨rfl, hsz, hP, hK, hD0, hX⟩ := hv
  have hx := B.exec
  have hb := B.bytes
  have hr := B.returns
  have hts := atoms_spec (ws := wP_factor) B.pre
  have hta : ∀ w ∈ AW, w.before _ s = true := fun w h => hts w (List.mem_cons_of_mem _ h)
  have hown : s.vm.findClass RP = some m.cls := findClass_of_methodNamed B.named
  have hlocks := B.notSynchronized
  subst hsz
  have hD := hD0.self (sz := s.heap.size)
  generalize hAe : va_A (PW ad k P ++ (FW ad k F ++ TW ad k T)) s.heap.size = A at hD ⊢
  have hA : ∀ q : Nat, s.heap.size ≤ q → A q := fun q h => by rw [← hAe]; exact Or.inr h
  have hS : va_S A s.heap s.heap [] := va_S.rf
  have hl := lv_entry ([.ref (ad 7), .int (nI r), .int (nI j), .int v]) (n := 5) (Nat.le_of_ble_eq_true rfl)
  rw [lg_entry_eq]
  generalize (lg_sl ([.ref (ad 7), .int (nI r), .int (nI j), .int v]) ++ List.replicate (5 - (lg_sl ([.ref (ad 7), .int (nI r), .int (nI j), .int v])).length) Slot.unset).toArray = ls at hl ⊢
  have hl : lv_has ls 5 [(0, .ref (ad 7)), (1, .int (nI r)), (2, .int (nI j)), (3, .int v)] := hl
  refine lv_aload_n hx hb dP_factor_0 rfl (lv_at hl 0 rfl) ?_
  refine lv_iload_n hx hb dP_factor_1 rfl (lv_at hl 1 rfl) ?_
  refine rd_call (va_runV (As := [.int (nI r)]) (rest := []) ⟨hx, hb, hml, hown, hta⟩ (c_P_needRow l dC dI ad k P F T r (by first | omega | assumption) (by first | omega | assumption)) (cwV 1 hta (gV m_276 m_278 mp_11 m_1 m_279) rfl rfl rfl (by decide +kernel) ⟨Nat.le_of_ble_eq_true rfl, Nat.le_of_ble_eq_true rfl⟩) (rd_V nW_ok hX hK hP (ci := 1) (q0 := 0) rfl rfl) rfl rfl hl.1 rfl (lv_room (Nat.le_of_ble_eq_true rfl)) dP_factor_2 ⟨Nat.zero_le _, Nat.zero_le _⟩) ?_
  refine W.eq (g2 := F0 m 5 ls []) rfl ?_
  refine lv_aload_n hx hb dP_factor_5 rfl (lv_at hl 0 rfl) ?_
  refine lv_iload_n hx hb dP_factor_6 rfl (lv_at hl 2 rfl) ?_
  refine rd_call (va_runV (As := [.int (nI j)]) (rest := []) ⟨hx, hb, hml, hown, hta⟩ (c_P_needColumn l dC dI ad k P F T j (by first | omega | assumption) (by first | omega | assumption)) (cwV 1 hta (gV m_296 m_298 mp_12 m_1 m_299) rfl rfl rfl (by decide +kernel) ⟨Nat.le_of_ble_eq_true rfl, Nat.le_of_ble_eq_true rfl⟩) (rd_V nW_ok hX hK hP (ci := 1) (q0 := 0) rfl rfl) rfl rfl hl.1 rfl (lv_room (Nat.le_of_ble_eq_true rfl)) dP_factor_7 ⟨Nat.zero_le _, Nat.zero_le _⟩) ?_
  refine W.eq (g2 := F0 m 10 ls []) rfl ?_
  refine lv_iload_n hx hb dP_factor_10 rfl (lv_at hl 1 rfl) ?_
  refine lv_aload_n hx hb dP_factor_11 rfl (lv_at hl 0 rfl) ?_
  refine va_get (D := (dC, dI)) (ci := 1) (v := .int (nI P.rin)) (C := RP) (T := FP) (N := 12) hx hb hta iP hown hK hP 0 rfl rfl 8 (by decide) (hta _ m_71) (fun _ h9 => h9) rfl dP_factor_12 ?_
  refine ni_ge (tgt := 28) hx hb dP_factor_15 (by decide) (by omega) (by omega) (fun c_1 => ?_) (fun c_1 => ?_)
  · refine lv_iload_n hx hb dP_factor_28 rfl (lv_at hl 3 rfl) ?_
    refine lv_sipush (v := (-1000)) hx hb dP_factor_29 (by decide) ?_
    refine lv_icmp_lt (tgt := 42) hx hb dP_factor_32 (by decide) (fun h1 => ?_) (fun h1 => ?_)
    · exact absurd h1 hv1
    · refine lv_iload_n hx hb dP_factor_35 rfl (lv_at hl 3 rfl) ?_
      refine lv_sipush (v := 1000) hx hb dP_factor_36 (by decide) ?_
      refine li_le (tgt := 52) hx hb dP_factor_39 (by decide) (fun h2 => ?_) (fun h2 => ?_)
      · refine lv_aload_n hx hb dP_factor_52 rfl (lv_at hl 0 rfl) ?_
        refine va_get (D := (dC, dI)) (ci := 1) (v := .ref (ad 6)) (C := RP) (T := FP) (N := 12) hx hb hta iP hown hK hP 0 rfl rfl 4 (by decide) (hta _ m_67) (fun _ h9 => h9) rfl dP_factor_53 ?_
        refine lv_iload_n hx hb dP_factor_56 rfl (lv_at hl 1 rfl) ?_
        refine lv_iload_n hx hb dP_factor_57 rfl (lv_at hl 2 rfl) ?_
        refine rd_call (va_runS (As := [.int (nI r), .int (nI j)]) (rest := [.ref (ad 6)]) ⟨hx, hb, hml, hown, hta⟩ (c_P_factorPlace l dC dI ad k r j) (cwS 2 hta (gS m_108 m_109 m_1 m_110) rfl rfl rfl (by decide +kernel) ⟨Nat.le_of_ble_eq_true rfl, Nat.le_of_ble_eq_true rfl⟩) (rd_S xT_ok trivial (hK.sub [] rfl) va_P_nil) rfl rfl hl.1 rfl (lv_room (Nat.le_of_ble_eq_true rfl)) dP_factor_58 ⟨Nat.zero_le _, Nat.zero_le _⟩) ?_
        refine W.eq (g2 := F0 m 61 ls [.int (nI (r * 12 + j)), .ref (ad 6)]) rfl ?_
        refine na_iald hx hb hK hP 5 4 rfl rfl (i := (r * 12 + j)) (by omega) (by decide) dP_factor_61 ?_
        refine lv_istore (lv' := [(4, .int (F (r * 12 + j))), (0, .ref (ad 7)), (1, .int (nI r)), (2, .int (nI j)), (3, .int v)]) hx hb dP_factor_62 hl (by decide) rfl (fun ls hl => ?_)
        refine lv_aload_n hx hb dP_factor_64 rfl (lv_at hl 1 rfl) ?_
        refine va_get (D := (dC, dI)) (ci := 1) (v := .ref (ad 6)) (C := RP) (T := FP) (N := 12) hx hb hta iP hown hK hP 0 rfl rfl 4 (by decide) (hta _ m_67) (fun _ h9 => h9) rfl dP_factor_65 ?_
        refine lv_iload_n hx hb dP_factor_68 rfl (lv_at hl 2 rfl) ?_
        refine lv_iload_n hx hb dP_factor_69 rfl (lv_at hl 3 rfl) ?_
        refine rd_call (va_runS (As := [.int (nI r), .int (nI j)]) (rest := [.ref (ad 6)]) ⟨hx, hb, hml, hown, hta⟩ (c_P_factorPlace l dC dI ad k r j) (cwS 2 hta (gS m_108 m_109 m_1 m_110) rfl rfl rfl (by decide +kernel) ⟨Nat.le_of_ble_eq_true rfl, Nat.le_of_ble_eq_true rfl⟩) (rd_S xT_ok trivial (hK.sub [] rfl) va_P_nil) rfl rfl hl.1 rfl (lv_room (Nat.le_of_ble_eq_true rfl)) dP_factor_70 ⟨Nat.zero_le _, Nat.zero_le _⟩) ?_
        refine W.eq (g2 := F0 m 73 ls [.int (nI (r * 12 + j)), .ref (ad 6)]) rfl ?_
        refine lv_iload_n hx hb dP_factor_73 rfl (lv_at hl 4 rfl) ?_
        refine na_iast hx hb hK hP hD hS 5 4 rfl rfl (i := (r * 12 + j)) (x := v) (by omega) (by decide) dP_factor_74 (fun H locs hP hD hS => ?_)
        have hP : va_P (dC, dI) vwCl (PW ad k P ++ (FW ad k (upd F (r * 12 + j) v) ++ TW ad k T)) H := hP
        have hD : va_D A (PW ad k P ++ (FW ad k (upd F (r * 12 + j) v) ++ TW ad k T)) := hD
        refine lv_iload hx hb dP_factor_75 (lv_at hl 0 rfl) ?_
        exact W.iret (v := F (r * 12 + j)) hx hb hr (fun t ht hW => ⟨rfl, by rw [ht]; exact hP, hS.F ht⟩) hS.2.2 dP_factor_77
      · exact absurd h2 hv2
  · exfalso; omega

set_option maxHeartbeats 4000000 in
set_option maxRecDepth 100000 in
theorem c_P_cut (l : Launch) (dC : Nat → ClassId) (dI : Nat → Nat → Nat) (ad : Nat → Nat) (k : Nat → ClassId) (P : PS) (F : Nat → Int32) (T : TS) (sz : Nat) (i j : Nat) (hro : P.rows < 12) (hw : T.w ≤ 12) (hi9 : i < T.w) (hj9 : j < T.w) (hij : ¬ i = j) : Met l yP_cut wP_cut ({ frames := 1, cells := 0, slots := 0, locals := 25 }) (wPc [.ref (ad 7), .int (nI i), .int (nI j)] sz (dC, dI) vwCl (PW ad k P ++ (FW ad k F ++ TW ad k T)) (PK k ++ (FK k ++ TK k)) nW) (wQ (some (.int (nI P.rows))) (dC, dI) vwCl (PW ad k (ps (upd P.K P.rows 1) (upd P.V P.rows 0) (vp_updL P.B P.rows 1) P.L P.wk (P.rows + 1) P.rin P.stp P.run P.lat) ++ (FW ad k (upd (upd F (P.rows * 12 + i) 1) (P.rows * 12 + j) 1) ++ TW ad k T)) (va_A (PW ad k P ++ (FW ad k F ++ TW ad k T)) sz)) 0 0 (va_A (PW ad k P ++ (FW ad k F ++ TW ad k T)) sz) := by
  refine Met.ofW (cc := bP_cut) (maxL := 4) (ret := (some .int)) (by decide) rfl ?_
  intro p e s m args below meth c s₁ B hml hv
  obtain ⟨rfl, hsz, hP, hK, hD0, hX⟩ := hv
  have hx := B.exec
  have hb := B.bytes
  have hr := B.returns
  have hts := atoms_spec (ws := wP_cut) B.pre
  have hta : ∀ w ∈ AW, w.before _ s = true := fun w h => hts w (List.mem_cons_of_mem _ h)
  have hown : s.vm.findClass RP = some m.cls := findClass_of_methodNamed B.named
  have hlocks := B.notSynchronized
  subst hsz
  have hD := hD0.self (sz := s.heap.size)
  generalize hAe : va_A (PW ad k P ++ (FW ad k F ++ TW ad k T)) s.heap.size = A at hD ⊢
  have hA : ∀ q : Nat, s.heap.size ≤ q → A q := fun q h => by rw [← hAe]; exact Or.inr h
  have hS : va_S A s.heap s.heap [] := va_S.rf
  have hl := lv_entry ([.ref (ad 7), .int (nI i), .int (nI j)]) (n := 4) (Nat.le_of_ble_eq_true rfl)
  rw [lg_entry_eq]
  generalize (lg_sl ([.ref (ad 7), .int (nI i), .int (nI j)]) ++ List.replicate (4 - (lg_sl ([.ref (ad 7), .int (nI i), .int (nI j)])).length) Slot.unset).toArray = ls at hl ⊢
  have hl : lv_has ls 4 [(0, .ref (ad 7)), (1, .int (nI i)), (2, .int (nI j))] := hl
  refine lv_aload_n hx hb dP_cut_0 rfl (lv_at hl 0 rfl) ?_
  refine lv_iload_n hx hb dP_cut_1 rfl (lv_at hl 1 rfl) ?_
  refine rd_call (va_runV (As := [.int (nI i)]) (rest := []) ⟨hx, hb, hml, hown, hta⟩ (c_P_needColumn l dC dI ad k P F T i (by first | omega | assumption) (by first | omega | assumption)) (cwV 1 hta (gV m_296 m_298 mp_12 m_1 m_299) rfl rfl rfl (by decide +kernel) ⟨Nat.le_of_ble_eq_true rfl, Nat.le_of_ble_eq_true rfl⟩) (rd_V nW_ok hX hK hP (ci := 1) (q0 := 0) rfl rfl) rfl rfl hl.1 rfl (lv_room (Nat.le_of_ble_eq_true rfl)) dP_cut_2 ⟨Nat.zero_le _, Nat.zero_le _⟩) ?_
  refine W.eq (g2 := F0 m 5 ls []) rfl ?_
  refine lv_aload_n hx hb dP_cut_5 rfl (lv_at hl 0 rfl) ?_
  refine lv_iload_n hx hb dP_cut_6 rfl (lv_at hl 2 rfl) ?_
  refine rd_call (va_runV (As := [.int (nI j)]) (rest := []) ⟨hx, hb, hml, hown, hta⟩ (c_P_needColumn l dC dI ad k P F T j (by first | omega | assumption) (by first | omega | assumption)) (cwV 1 hta (gV m_296 m_298 mp_12 m_1 m_299) rfl rfl rfl (by decide +kernel) ⟨Nat.le_of_ble_eq_true rfl, Nat.le_of_ble_eq_true rfl⟩) (rd_V nW_ok hX hK hP (ci := 1) (q0 := 0) rfl rfl) rfl rfl hl.1 rfl (lv_room (Nat.le_of_ble_eq_true rfl)) dP_cut_7 ⟨Nat.zero_le _, Nat.zero_le _⟩) ?_
  refine W.eq (g2 := F0 m 10 ls []) rfl ?_
  refine lv_aload_n hx hb dP_cut_10 rfl (lv_at hl 0 rfl) ?_
  refine rd_call (va_runV (As := []) (rest := []) ⟨hx, hb, hml, hown, hta⟩ (c_P_needRoomForRow l dC dI ad k P F T (by first | omega | assumption)) (cwV 0 hta (gV m_251 m_253 mp_9 m_1 m_254) rfl rfl rfl (by decide +kernel) ⟨Nat.le_of_ble_eq_true rfl, Nat.le_of_ble_eq_true rfl⟩) (rd_V nW_ok hX hK hP (ci := 1) (q0 := 0) rfl rfl) rfl rfl hl.1 rfl (lv_room (Nat.le_of_ble_eq_true rfl)) dP_cut_11 ⟨Nat.zero_le _, Nat.zero_le _⟩) ?_
  refine W.eq (g2 := F0 m 14 ls []) rfl ?_
  refine lv_iload_n hx hb dP_cut_14 rfl (lv_at hl 1 rfl) ?_
  refine lv_iload_n hx hb dP_cut_15 rfl (lv_at hl 2 rfl) ?_
  refine ni_ne (tgt := 29) hx hb dP_cut_16 (by decide) (by omega) (by omega) (fun h1 => ?_) (fun h1 => ?_)
  · refine lv_aload_n hx hb dP_cut_29 rfl (lv_at hl 0 rfl) ?_
    refine lv_iconst (v := 1) hx hb dP_cut_30 (by decide) ?_
    refine lv_iconst (v := 0) hx hb dP_cut_31 (by decide) ?_
    refine lv_lconst (v := 1) hx hb dP_cut_32 (by decide) ?_
    refine wr_call (X := ([] : va_W)) (va_runV (As := [.int 1, .int 0, .long 1]) (rest := []) ⟨hx, hb, hml, hown, hta⟩ (c_P_addRow l dC dI ad k P F T s.heap.size 1 0 1 (by first | omega | exact hw | exact hh)) (cwV 3 hta (gV m_264 m_266 mp_10 m_1 m_267) rfl rfl rfl (by decide +kernel) ⟨Nat.le_of_ble_eq_true rfl, Nat.le_of_ble_eq_true rfl⟩) (wr_V nW_ok hX hK hP hD (ci := 1) (q0 := 0) rfl rfl) rfl rfl hl.1 rfl (lv_room (Nat.le_of_ble_eq_true rfl)) dP_cut_33 ⟨Nat.zero_le _, Nat.zero_le _⟩) hP hD hS hA rfl (fun H locs hP hD hS => ?_)
    have hP : va_P (dC, dI) vwCl (PW ad k (ps (upd P.K P.rows 1) (upd P.V P.rows 0) (vp_updL P.B P.rows 1) P.L P.wk (P.rows + 1) P.rin P.stp P.run P.lat) ++ (FW ad k F ++ TW ad k T)) H := hP
    have hD : va_D A (PW ad k (ps (upd P.K P.rows 1) (upd P.V P.rows 0) (vp_updL P.B P.rows 1) P.L P.wk (P.rows + 1) P.rin P.stp P.run P.lat) ++ (FW ad k F ++ TW ad k T)) := hD
    refine W.eq (g2 := F0 m 36 ls [.int (nI P.rows)]) rfl ?_
    refine lv_istore_n (lv' := [(3, .int (nI P.rows)), (0, .ref (ad 7)), (1, .int (nI i)), (2, .int (nI j))]) hx hb dP_cut_36 rfl hl (by decide) rfl (fun ls hl => ?_)
    refine lv_aload_n hx hb dP_cut_37 rfl (lv_at hl 1 rfl) ?_
    refine va_get (D := (dC, dI)) (ci := 1) (v := .ref (ad 6)) (C := RP) (T := FP) (N := 12) hx hb hta iP hown hK hP 0 rfl rfl 4 (by decide) (hta _ m_67) (fun _ h9 => h9) rfl dP_cut_38 ?_
    refine lv_iload_n hx hb dP_cut_41 rfl (lv_at hl 0 rfl) ?_
    refine lv_iload_n hx hb dP_cut_42 rfl (lv_at hl 2 rfl) ?_
    refine rd_call (va_runS (As := [.int (nI P.rows), .int (nI i)]) (rest := [.ref (ad 6)]) ⟨hx, hb, hml, hown, hta⟩ (c_P_factorPlace l dC dI ad k P.rows i) (cwS 2 hta (gS m_108 m_109 m_1 m_110) rfl rfl rfl (by decide +kernel) ⟨Nat.le_of_ble_eq_true rfl, Nat.le_of_ble_eq_true rfl⟩) (rd_S xT_ok trivial (hK.sub [] rfl) va_P_nil) rfl rfl hl.1 rfl (lv_room (Nat.le_of_ble_eq_true rfl)) dP_cut_43 ⟨Nat.zero_le _, Nat.zero_le _⟩) ?_
    refine W.eq (g2 := F0 m 46 ls [.int (nI (P.rows * 12 + i)), .ref (ad 6)]) rfl ?_
    refine lv_iconst (v := 1) hx hb dP_cut_46 (by decide) ?_
    refine na_iast hx hb hK hP hD hS 5 4 rfl rfl (i := (P.rows * 12 + i)) (x := 1) (by omega) (by decide) dP_cut_47 (fun H locs hP hD hS => ?_)
    have hP : va_P (dC, dI) vwCl (PW ad k (ps (upd P.K P.rows 1) (upd P.V P.rows 0) (vp_updL P.B P.rows 1) P.L P.wk (P.rows + 1) P.rin P.stp P.run P.lat) ++ (FW ad k (upd F (P.rows * 12 + i) 1) ++ TW ad k T)) H := hP
    have hD : va_D A (PW ad k (ps (upd P.K P.rows 1) (upd P.V P.rows 0) (vp_updL P.B P.rows 1) P.L P.wk (P.rows + 1) P.rin P.stp P.run P.lat) ++ (FW ad k (upd F (P.rows * 12 + i) 1) ++ TW ad k T)) := hD
    refine lv_aload_n hx hb dP_cut_48 rfl (lv_at hl 1 rfl) ?_
    refine va_get (D := (dC, dI)) (ci := 1) (v := .ref (ad 6)) (C := RP) (T := FP) (N := 12) hx hb hta iP hown hK hP 0 rfl rfl 4 (by decide) (hta _ m_67) (fun _ h9 => h9) rfl dP_cut_49 ?_
    refine lv_iload_n hx hb dP_cut_52 rfl (lv_at hl 0 rfl) ?_
    refine lv_iload_n hx hb dP_cut_53 rfl (lv_at hl 3 rfl) ?_
    refine rd_call (va_runS (As := [.int (nI P.rows), .int (nI j)]) (rest := [.ref (ad 6)]) ⟨hx, hb, hml, hown, hta⟩ (c_P_factorPlace l dC dI ad k P.rows j) (cwS 2 hta (gS m_108 m_109 m_1 m_110) rfl rfl rfl (by decide +kernel) ⟨Nat.le_of_ble_eq_true rfl, Nat.le_of_ble_eq_true rfl⟩) (rd_S xT_ok trivial (hK.sub [] rfl) va_P_nil) rfl rfl hl.1 rfl (lv_room (Nat.le_of_ble_eq_true rfl)) dP_cut_54 ⟨Nat.zero_le _, Nat.zero_le _⟩) ?_
    refine W.eq (g2 := F0 m 57 ls [.int (nI (P.rows * 12 + j)), .ref (ad 6)]) rfl ?_
    refine lv_iconst (v := 1) hx hb dP_cut_57 (by decide) ?_
    refine na_iast hx hb hK hP hD hS 5 4 rfl rfl (i := (P.rows * 12 + j)) (x := 1) (by omega) (by decide) dP_cut_58 (fun H locs hP hD hS => ?_)
    have hP : va_P (dC, dI) vwCl (PW ad k (ps (upd P.K P.rows 1) (upd P.V P.rows 0) (vp_updL P.B P.rows 1) P.L P.wk (P.rows + 1) P.rin P.stp P.run P.lat) ++ (FW ad k (upd (upd F (P.rows * 12 + i) 1) (P.rows * 12 + j) 1) ++ TW ad k T)) H := hP
    have hD : va_D A (PW ad k (ps (upd P.K P.rows 1) (upd P.V P.rows 0) (vp_updL P.B P.rows 1) P.L P.wk (P.rows + 1) P.rin P.stp P.run P.lat) ++ (FW ad k (upd (upd F (P.rows * 12 + i) 1) (P.rows * 12 + j) 1) ++ TW ad k T)) := hD
    refine lv_iload_n hx hb dP_cut_59 rfl (lv_at hl 0 rfl) ?_
    exact W.iret (v := nI P.rows) hx hb hr (fun t ht hW => ⟨rfl, by rw [ht]; exact hP, hS.F ht⟩) hS.2.2 dP_cut_60
  · exact absurd h1 hij

set_option maxHeartbeats 4000000 in
set_option maxRecDepth 100000 in
theorem c_P_right (l : Launch) (dC : Nat → ClassId) (dI : Nat → Nat → Nat) (ad : Nat → Nat) (k : Nat → ClassId) (P : PS) (F : Nat → Int32) (T : TS) (sz : Nat) (r : Nat) (v : Int64) (hro : P.rows ≤ 12) (hr9 : r < P.rows) (hri : P.rin ≤ 12) (hw : T.w ≤ 12) (hh : T.h ≤ 24) (hb1 : ¬ v < -1000000) (hb2 : ¬ 1000000 < v) : Met l yP_right wP_right ({ frames := 3, cells := 0, slots := 0, locals := 72 }) (wPc [.ref (ad 7), .int (nI r), .long v] sz (dC, dI) vwCl (PW ad k P ++ (FW ad k F ++ TW ad k T)) (PK k ++ (FK k ++ TK k)) nW) (wQ (some (.int (bI (rtM P T r v).1))) (dC, dI) vwCl (PW ad k (ps ((rtM P T r v).2.1.K) ((rtM P T r v).2.1.V) ((rtM P T r v).2.1.B) ((rtM P T r v).2.1.L) ((rtM P T r v).2.1.wk) ((rtM P T r v).2.1.rows) ((rtM P T r v).2.1.rin) ((rtM P T r v).2.1.stp) ((rtM P T r v).2.1.run) ((rtM P T r v).2.1.lat)) ++ (FW ad k F ++ TW ad k ((rtM P T r v).2.2))) (va_A (PW ad k P ++ (FW ad k F ++ TW ad k T)) sz)) 0 0 (va_A (PW ad k P ++ (FW ad k F ++ TW ad k T)) sz) := by
  refine Met.ofW (cc := bP_right) (maxL := 4) (ret := (some .boolean)) (by decide) rfl ?_
  intro p e s m args below meth c s₁ B hml hv
  obtain ⟨rfl, hsz, hP, hK, hD0, hX⟩ := hv
  have hx := B.exec
  have hb := B.bytes
  have hr := B.returns
  have hts := atoms_spec (ws := wP_right) B.pre
  have hta : ∀ w ∈ AW, w.before _ s = true := fun w h => hts w (List.mem_cons_of_mem _ h)
  have hown : s.vm.findClass RP = some m.cls := findClass_of_methodNamed B.named
  have hlocks := B.notSynchronized
  subst hsz
  have hD := hD0.self (sz := s.heap.size)
  generalize hAe : va_A (PW ad k P ++ (FW ad k F ++ TW ad k T)) s.heap.size = A at hD ⊢
  have hA : ∀ q : Nat, s.heap.size ≤ q → A q := fun q h => by rw [← hAe]; exact Or.inr h
  have hS : va_S A s.heap s.heap [] := va_S.rf
  have hl := lv_entry ([.ref (ad 7), .int (nI r), .long v]) (n := 4) (Nat.le_of_ble_eq_true rfl)
  rw [lg_entry_eq]
  generalize (lg_sl ([.ref (ad 7), .int (nI r), .long v]) ++ List.replicate (4 - (lg_sl ([.ref (ad 7), .int (nI r), .long v])).length) Slot.unset).toArray = ls at hl ⊢
  have hl : lv_has ls 4 [(0, .ref (ad 7)), (1, .int (nI r)), (2, .long v)] := hl
  refine lv_aload_n hx hb dP_right_0 rfl (lv_at hl 0 rfl) ?_
  refine lv_iload_n hx hb dP_right_1 rfl (lv_at hl 1 rfl) ?_
  refine rd_call (va_runV (As := [.int (nI r)]) (rest := []) ⟨hx, hb, hml, hown, hta⟩ (c_P_needRow l dC dI ad k P F T r (by first | omega | assumption) (by first | omega | assumption)) (cwV 1 hta (gV m_276 m_278 mp_11 m_1 m_279) rfl rfl rfl (by decide +kernel) ⟨Nat.le_of_ble_eq_true rfl, Nat.le_of_ble_eq_true rfl⟩) (rd_V nW_ok hX hK hP (ci := 1) (q0 := 0) rfl rfl) rfl rfl hl.1 rfl (lv_room (Nat.le_of_ble_eq_true rfl)) dP_right_2 ⟨Nat.zero_le _, Nat.zero_le _⟩) ?_
  refine W.eq (g2 := F0 m 5 ls []) rfl ?_
  refine lv_lload_n hx hb dP_right_5 rfl (lv_at hl 2 rfl) ?_
  refine rd_call (va_runS (As := [.long v]) (rest := []) ⟨hx, hb, hml, hown, hta⟩ (c_P_needRight l dC dI ad k v hb1 hb2) (cwS 1 hta (gS m_258 m_259 m_1 m_260) rfl rfl rfl (by decide +kernel) ⟨Nat.le_of_ble_eq_true rfl, Nat.le_of_ble_eq_true rfl⟩) (rd_S xT_ok trivial (hK.sub [] rfl) va_P_nil) rfl rfl hl.1 rfl (lv_room (Nat.le_of_ble_eq_true rfl)) dP_right_6 ⟨Nat.zero_le _, Nat.zero_le _⟩) ?_
  refine W.eq (g2 := F0 m 9 ls []) rfl ?_
  refine lv_iload_n hx hb dP_right_9 rfl (lv_at hl 1 rfl) ?_
  refine lv_aload_n hx hb dP_right_10 rfl (lv_at hl 0 rfl) ?_
  refine va_get (D := (dC, dI)) (ci := 1) (v := .int (nI P.rin)) (C := RP) (T := FP) (N := 12) hx hb hta iP hown hK hP 0 rfl rfl 8 (by decide) (hta _ m_71) (fun _ h9 => h9) rfl dP_right_11 ?_
  refine ni_ge (tgt := 35) hx hb dP_right_14 (by decide) (by omega) (by omega) (fun h1 => ?_) (fun h1 => ?_)
  · refine lv_aload_n hx hb dP_right_35 rfl (lv_at hl 0 rfl) ?_
    refine va_get (D := (dC, dI)) (ci := 1) (v := .ref (ad 10)) (C := RP) (T := FP) (N := 12) hx hb hta iP hown hK hP 0 rfl rfl 3 (by decide) (hta _ m_66) (fun _ h9 => h9) rfl dP_right_36 ?_
    refine lv_iload_n hx hb dP_right_39 rfl (lv_at hl 1 rfl) ?_
    refine lv_lload_n hx hb dP_right_40 rfl (lv_at hl 2 rfl) ?_
    refine na_last hx hb hK hP hD hS 3 2 rfl rfl (i := r) (x := v) (by omega) (by decide) dP_right_41 (fun H locs hP hD hS => ?_)
    have hP : va_P (dC, dI) vwCl (PW ad k (ps P.K P.V (vp_updL P.B r v) P.L P.wk P.rows P.rin P.stp P.run P.lat) ++ (FW ad k F ++ TW ad k T)) H := hP
    have hD : va_D A (PW ad k (ps P.K P.V (vp_updL P.B r v) P.L P.wk P.rows P.rin P.stp P.run P.lat) ++ (FW ad k F ++ TW ad k T)) := hD
    refine lv_aload_n hx hb dP_right_42 rfl (lv_at hl 0 rfl) ?_
    refine lv_iconst (v := (-1)) hx hb dP_right_43 (by decide) ?_
    refine va_put (D := (dC, dI)) (ci := 1) (v := .int (-1)) (ty := .int) (C := RP) (T := FP) (N := 12) hx hb hta iP tP tP_ok nP hown hK hP hD hS 0 rfl rfl 11 (by decide) (hta _ m_74) (fun _ h9 => h9) rfl (by decide +kernel) rfl rfl (Nat.le_of_ble_eq_true rfl) dP_right_44 (fun H locs hP hD hS => ?_)
    have hP : va_P (dC, dI) vwCl (PW ad k (ps P.K P.V (vp_updL P.B r v) P.L P.wk P.rows P.rin P.stp P.run (-1)) ++ (FW ad k F ++ TW ad k T)) H := hP
    have hD : va_D A (PW ad k (ps P.K P.V (vp_updL P.B r v) P.L P.wk P.rows P.rin P.stp P.run (-1)) ++ (FW ad k F ++ TW ad k T)) := hD
    refine lv_iconst (v := 1) hx hb dP_right_47 (by decide) ?_
    exact W.zret (v := 1) hx hb hr (rfl) (fun t ht hW => ⟨congrArg (fun z => Outcome.returned (some (.int z))) (by first | (rw [rtM, if_pos h1]; rfl; done) | (rw [rtM, if_neg (Nat.not_le.mpr h1), h2]; rfl)), by rw [ht]; exact (by first | (rw [rtM, if_pos h1]; exact hP; done) | (rw [rtM, if_neg (Nat.not_le.mpr h1), h2]; exact hP)), hS.F ht⟩) hS.2.2 dP_right_48
  · refine lv_aload_n hx hb dP_right_17 rfl (lv_at hl 0 rfl) ?_
    refine lv_iload_n hx hb dP_right_18 rfl (lv_at hl 1 rfl) ?_
    refine lv_lload_n hx hb dP_right_19 rfl (lv_at hl 2 rfl) ?_
    refine lv_aload_n hx hb dP_right_20 rfl (lv_at hl 0 rfl) ?_
    refine va_get (D := (dC, dI)) (ci := 1) (v := .ref (ad 10)) (C := RP) (T := FP) (N := 12) hx hb hta iP hown hK hP 0 rfl rfl 3 (by decide) (hta _ m_66) (fun _ h9 => h9) rfl dP_right_21 ?_
    refine lv_iload_n hx hb dP_right_24 rfl (lv_at hl 1 rfl) ?_
    refine na_lald hx hb hK hP 3 2 rfl rfl (i := r) (by omega) (by decide) dP_right_25 ?_
    refine lv_lsub hx hb dP_right_26 ?_
    refine wr_call (X := ([] : va_W)) (va_runV (As := [.int (nI r), .long (v - (P.B r))]) (rest := []) ⟨hx, hb, hml, hown, hta⟩ (c_P_moveStarts l dC dI ad k P F T s.heap.size r (v - (P.B r)) hw hh (by omega)) (cwV 2 hta (gV m_318 m_320 mp_13 m_1 m_321) rfl rfl rfl (by decide +kernel) ⟨Nat.le_of_ble_eq_true rfl, Nat.le_of_ble_eq_true rfl⟩) (wr_V nW_ok hX hK hP hD (ci := 1) (q0 := 0) rfl rfl) rfl rfl hl.1 rfl (lv_room (Nat.le_of_ble_eq_true rfl)) dP_right_27 ⟨Nat.zero_le _, Nat.zero_le _⟩) hP hD hS hA rfl (fun H locs hP hD hS => ?_)
    have hP : va_P (dC, dI) vwCl (PW ad k P ++ (FW ad k F ++ TW ad k ((mvM P.K P.L T r (v - (P.B r))).2))) H := hP
    have hD : va_D A (PW ad k P ++ (FW ad k F ++ TW ad k ((mvM P.K P.L T r (v - (P.B r))).2))) := hD
    refine W.eq (g2 := F0 m 30 ls [.int (bI (mvM P.K P.L T r (v - (P.B r))).1)]) rfl ?_
    refine lb_ne (tgt := 35) hx hb dP_right_30 (by decide) (fun h2 => ?_) (fun h2 => ?_)
    · refine lv_aload_n hx hb dP_right_35 rfl (lv_at hl 0 rfl) ?_
      refine va_get (D := (dC, dI)) (ci := 1) (v := .ref (ad 10)) (C := RP) (T := FP) (N := 12) hx hb hta iP hown hK hP 0 rfl rfl 3 (by decide) (hta _ m_66) (fun _ h9 => h9) rfl dP_right_36 ?_
      refine lv_iload_n hx hb dP_right_39 rfl (lv_at hl 1 rfl) ?_
      refine lv_lload_n hx hb dP_right_40 rfl (lv_at hl 2 rfl) ?_
      refine na_last hx hb hK hP hD hS 3 2 rfl rfl (i := r) (x := v) (by omega) (by decide) dP_right_41 (fun H locs hP hD hS => ?_)
      have hP : va_P (dC, dI) vwCl (PW ad k (ps P.K P.V (vp_updL P.B r v) P.L P.wk P.rows P.rin P.stp P.run P.lat) ++ (FW ad k F ++ TW ad k ((mvM P.K P.L T r (v - (P.B r))).2))) H := hP
      have hD : va_D A (PW ad k (ps P.K P.V (vp_updL P.B r v) P.L P.wk P.rows P.rin P.stp P.run P.lat) ++ (FW ad k F ++ TW ad k ((mvM P.K P.L T r (v - (P.B r))).2))) := hD
      refine lv_aload_n hx hb dP_right_42 rfl (lv_at hl 0 rfl) ?_
      refine lv_iconst (v := (-1)) hx hb dP_right_43 (by decide) ?_
      refine va_put (D := (dC, dI)) (ci := 1) (v := .int (-1)) (ty := .int) (C := RP) (T := FP) (N := 12) hx hb hta iP tP tP_ok nP hown hK hP hD hS 0 rfl rfl 11 (by decide) (hta _ m_74) (fun _ h9 => h9) rfl (by decide +kernel) rfl rfl (Nat.le_of_ble_eq_true rfl) dP_right_44 (fun H locs hP hD hS => ?_)
      have hP : va_P (dC, dI) vwCl (PW ad k (ps P.K P.V (vp_updL P.B r v) P.L P.wk P.rows P.rin P.stp P.run (-1)) ++ (FW ad k F ++ TW ad k ((mvM P.K P.L T r (v - (P.B r))).2))) H := hP
      have hD : va_D A (PW ad k (ps P.K P.V (vp_updL P.B r v) P.L P.wk P.rows P.rin P.stp P.run (-1)) ++ (FW ad k F ++ TW ad k ((mvM P.K P.L T r (v - (P.B r))).2))) := hD
      refine lv_iconst (v := 1) hx hb dP_right_47 (by decide) ?_
      exact W.zret (v := 1) hx hb hr (rfl) (fun t ht hW => ⟨congrArg (fun z => Outcome.returned (some (.int z))) (by first | (rw [rtM, if_pos h1]; rfl; done) | (rw [rtM, if_neg (Nat.not_le.mpr h1), h2]; rfl)), by rw [ht]; exact (by first | (rw [rtM, if_pos h1]; exact hP; done) | (rw [rtM, if_neg (Nat.not_le.mpr h1), h2]; exact hP)), hS.F ht⟩) hS.2.2 dP_right_48
    · refine lv_iconst (v := 0) hx hb dP_right_33 (by decide) ?_
      exact W.zret (v := 0) hx hb hr (rfl) (fun t ht hW => ⟨congrArg (fun z => Outcome.returned (some (.int z))) (by rw [rtM, if_neg (Nat.not_le.mpr h1), h2]; rfl), by rw [ht]; exact (by rw [rtM, if_neg (Nat.not_le.mpr h1), h2]; exact hP), hS.F ht⟩) hS.2.2 dP_right_34

set_option maxHeartbeats 4000000 in
set_option maxRecDepth 100000 in
theorem c_P_value (l : Launch) (dC : Nat → ClassId) (dI : Nat → Nat → Nat) (ad : Nat → Nat) (k : Nat → ClassId) (P : PS) (F : Nat → Int32) (T : TS) (pt : Int32) (hpt : pt = 0 ∨ pt = 1) : Met l yP_value wP_value ({ frames := 2, cells := 0, slots := 0, locals := 54 }) (rPc [.ref (ad 7), .int pt] (dC, dI) vwCl (PW ad k P ++ (FW ad k F ++ TW ad k T)) (PK k ++ (FK k ++ TK k)) nW) (rQ (some (.long (ltM (T.C (0 * 13 + 0)) T.d pt)))) 0 0 (fun _ => False) := by
  refine Met.ofW (cc := bP_value) (maxL := 2) (ret := (some .long)) (by decide) rfl ?_
  intro p e s m args below meth c s₁ B hml hv
  obtain ⟨rfl, hP, hK, hX⟩ := hv
  have hx := B.exec
  have hb := B.bytes
  have hr := B.returns
  have hts := atoms_spec (ws := wP_value) B.pre
  have hta : ∀ w ∈ AW, w.before _ s = true := fun w h => hts w (List.mem_cons_of_mem _ h)
  have hown : s.vm.findClass RP = some m.cls := findClass_of_methodNamed B.named
  have hlocks := B.notSynchronized
  have hl := lv_entry ([.ref (ad 7), .int pt]) (n := 2) (Nat.le_of_ble_eq_true rfl)
  rw [lg_entry_eq]
  generalize (lg_sl ([.ref (ad 7), .int pt]) ++ List.replicate (2 - (lg_sl ([.ref (ad 7), .int pt])).length) Slot.unset).toArray = ls at hl ⊢
  have hl : lv_has ls 2 [(0, .ref (ad 7)), (1, .int pt)] := hl
  refine lv_iload_n hx hb dP_value_0 rfl (lv_at hl 1 rfl) ?_
  refine rd_call (va_runS (As := [.int pt]) (rest := []) ⟨hx, hb, hml, hown, hta⟩ (c_P_needPart l dC dI ad k pt (by first | omega | assumption)) (cwS 1 hta (gS m_437 m_438 m_1 m_439) rfl rfl rfl (by decide +kernel) ⟨Nat.le_of_ble_eq_true rfl, Nat.le_of_ble_eq_true rfl⟩) (rd_S xT_ok trivial (hK.sub [] rfl) va_P_nil) rfl rfl hl.1 rfl (lv_room (Nat.le_of_ble_eq_true rfl)) dP_value_1 ⟨Nat.zero_le _, Nat.zero_le _⟩) ?_
  refine W.eq (g2 := F0 m 4 ls []) rfl ?_
  refine lv_aload_n hx hb dP_value_4 rfl (lv_at hl 0 rfl) ?_
  refine va_get (D := (dC, dI)) (ci := 1) (v := .ref (ad 0)) (C := RP) (T := FP) (N := 12) hx hb hta iP hown hK hP 0 rfl rfl 6 (by decide) (hta _ m_69) (fun _ h9 => h9) rfl dP_value_5 ?_
  refine lv_iconst (v := nI 0) hx hb dP_value_8 (by decide) ?_
  refine lv_iconst (v := nI 0) hx hb dP_value_9 (by decide) ?_
  refine rd_call (va_runVN (As := [.int (nI 0), .int (nI 0)]) (rest := []) ⟨hx, hb, hml, hown, hta⟩ (c_T_cell l dC dI ad k T 0 0 (by first | omega | exact hw | exact hh)) ⟨(va_cnB 2 hta (gC m_126) rfl rfl rfl (hX _ nw_17) (hta _ m_2) (by decide +kernel) ⟨Nat.le_of_ble_eq_true rfl, Nat.le_of_ble_eq_true rfl⟩), hta _ m_125, hta _ mp_4⟩ (rd_V xT_ok trivial (hK.sub [5, 6, 7, 8, 9] rfl) (hP.sub [6, 7, 8, 9, 10, 11] rfl) (ci := 0) (q0 := 0) rfl rfl) rfl rfl hl.1 rfl (lv_room (Nat.le_of_ble_eq_true rfl)) dP_value_10 ⟨Nat.zero_le _, Nat.zero_le _⟩) ?_
  refine W.eq (g2 := F0 m 13 ls [.long (T.C (0 * 13 + 0))]) rfl ?_
  refine lv_aload_n hx hb dP_value_13 rfl (lv_at hl 0 rfl) ?_
  refine va_get (D := (dC, dI)) (ci := 1) (v := .ref (ad 0)) (C := RP) (T := FP) (N := 12) hx hb hta iP hown hK hP 0 rfl rfl 6 (by decide) (hta _ m_69) (fun _ h9 => h9) rfl dP_value_14 ?_
  refine va_getN (D := (dC, dI)) (ci := 0) (v := .long T.d) (C := RT) (T := FT) (N := 8) hx hb hta iT hown hK hP 6 rfl rfl 7 (by decide) (va_Nw.use rfl (hX _ nw_4)) (fun _ h9 => h9) rfl dP_value_17 ?_
  refine lv_iload_n hx hb dP_value_20 rfl (lv_at hl 1 rfl) ?_
  refine rd_call (va_runS (As := [.long (T.C (0 * 13 + 0)), .long T.d, .int pt]) (rest := []) ⟨hx, hb, hml, hown, hta⟩ (c_P_inLeastTerms l dC dI ad k (T.C (0 * 13 + 0)) T.d pt) (cwS 3 hta (gS m_442 m_443 m_1 m_444) rfl rfl rfl (by decide +kernel) ⟨Nat.le_of_ble_eq_true rfl, Nat.le_of_ble_eq_true rfl⟩) (rd_S xT_ok trivial (hK.sub [] rfl) va_P_nil) rfl rfl hl.1 rfl (lv_room (Nat.le_of_ble_eq_true rfl)) dP_value_21 ⟨Nat.zero_le _, Nat.zero_le _⟩) ?_
  refine W.eq (g2 := F0 m 24 ls [.long (ltM (T.C (0 * 13 + 0)) T.d pt)]) rfl ?_
  exact W.lret (v := ltM (T.C (0 * 13 + 0)) T.d pt) hx hb hr (fun t ht hW => ⟨rfl, ht⟩) (fun q h => nomatch h) dP_value_24

set_option maxHeartbeats 4000000 in
set_option maxRecDepth 100000 in
theorem c_P_share (l : Launch) (dC : Nat → ClassId) (dI : Nat → Nat → Nat) (ad : Nat → Nat) (k : Nat → ClassId) (P : PS) (F : Nat → Int32) (T : TS) (j : Nat) (pt : Int32) (hw : T.w ≤ 12) (hh : T.h ≤ 24) (hj9 : j < T.w) (hpt : pt = 0 ∨ pt = 1) : Met l yP_share wP_share ({ frames := 2, cells := 0, slots := 0, locals := 54 }) (rPc [.ref (ad 7), .int (nI j), .int pt] (dC, dI) vwCl (PW ad k P ++ (FW ad k F ++ TW ad k T)) (PK k ++ (FK k ++ TK k)) nW) (rQ (some (.long (ltM (T.start (nI j)) T.d pt)))) 0 0 (fun _ => False) := by
  refine Met.ofW (cc := bP_share) (maxL := 3) (ret := (some .long)) (by decide) rfl ?_
  intro p e s m args below meth c s₁ B hml hv
  obtain ⟨rfl, hP, hK, hX⟩ := hv
  have hx := B.exec
  have hb := B.bytes
  have hr := B.returns
  have hts := atoms_spec (ws := wP_share) B.pre
  have hta : ∀ w ∈ AW, w.before _ s = true := fun w h => hts w (List.mem_cons_of_mem _ h)
  have hown : s.vm.findClass RP = some m.cls := findClass_of_methodNamed B.named
  have hlocks := B.notSynchronized
  have hl := lv_entry ([.ref (ad 7), .int (nI j), .int pt]) (n := 3) (Nat.le_of_ble_eq_true rfl)
  rw [lg_entry_eq]
  generalize (lg_sl ([.ref (ad 7), .int (nI j), .int pt]) ++ List.replicate (3 - (lg_sl ([.ref (ad 7), .int (nI j), .int pt])).length) Slot.unset).toArray = ls at hl ⊢
  have hl : lv_has ls 3 [(0, .ref (ad 7)), (1, .int (nI j)), (2, .int pt)] := hl
  refine lv_aload_n hx hb dP_share_0 rfl (lv_at hl 0 rfl) ?_
  refine lv_iload_n hx hb dP_share_1 rfl (lv_at hl 1 rfl) ?_
  refine rd_call (va_runV (As := [.int (nI j)]) (rest := []) ⟨hx, hb, hml, hown, hta⟩ (c_P_needColumn l dC dI ad k P F T j (by first | omega | assumption) (by first | omega | assumption)) (cwV 1 hta (gV m_296 m_298 mp_12 m_1 m_299) rfl rfl rfl (by decide +kernel) ⟨Nat.le_of_ble_eq_true rfl, Nat.le_of_ble_eq_true rfl⟩) (rd_V nW_ok hX hK hP (ci := 1) (q0 := 0) rfl rfl) rfl rfl hl.1 rfl (lv_room (Nat.le_of_ble_eq_true rfl)) dP_share_2 ⟨Nat.zero_le _, Nat.zero_le _⟩) ?_
  refine W.eq (g2 := F0 m 5 ls []) rfl ?_
  refine lv_iload_n hx hb dP_share_5 rfl (lv_at hl 2 rfl) ?_
  refine rd_call (va_runS (As := [.int pt]) (rest := []) ⟨hx, hb, hml, hown, hta⟩ (c_P_needPart l dC dI ad k pt (by first | omega | assumption)) (cwS 1 hta (gS m_437 m_438 m_1 m_439) rfl rfl rfl (by decide +kernel) ⟨Nat.le_of_ble_eq_true rfl, Nat.le_of_ble_eq_true rfl⟩) (rd_S xT_ok trivial (hK.sub [] rfl) va_P_nil) rfl rfl hl.1 rfl (lv_room (Nat.le_of_ble_eq_true rfl)) dP_share_6 ⟨Nat.zero_le _, Nat.zero_le _⟩) ?_
  refine W.eq (g2 := F0 m 9 ls []) rfl ?_
  refine lv_aload_n hx hb dP_share_9 rfl (lv_at hl 0 rfl) ?_
  refine va_get (D := (dC, dI)) (ci := 1) (v := .ref (ad 0)) (C := RP) (T := FP) (N := 12) hx hb hta iP hown hK hP 0 rfl rfl 6 (by decide) (hta _ m_69) (fun _ h9 => h9) rfl dP_share_10 ?_
  refine lv_iload_n hx hb dP_share_13 rfl (lv_at hl 1 rfl) ?_
  refine rd_call (va_runVN (As := [.int (nI j)]) (rest := []) ⟨hx, hb, hml, hown, hta⟩ (c_T_startOf l dC dI ad k T (nI j) (by first | omega | exact hw | exact hh)) ⟨(va_cnB 1 hta (gC m_118) rfl rfl rfl (hX _ nw_18) (hta _ m_2) (by decide +kernel) ⟨Nat.le_of_ble_eq_true rfl, Nat.le_of_ble_eq_true rfl⟩), hta _ m_117, hta _ mp_2⟩ (rd_V xT_ok trivial (hK.sub [5, 6, 7, 8, 9] rfl) (hP.sub [6, 7, 8, 9, 10, 11] rfl) (ci := 0) (q0 := 0) rfl rfl) rfl rfl hl.1 rfl (lv_room (Nat.le_of_ble_eq_true rfl)) dP_share_14 ⟨Nat.zero_le _, Nat.zero_le _⟩) ?_
  refine W.eq (g2 := F0 m 17 ls [.long (TS.start T (nI j))]) rfl ?_
  refine lv_aload_n hx hb dP_share_17 rfl (lv_at hl 0 rfl) ?_
  refine va_get (D := (dC, dI)) (ci := 1) (v := .ref (ad 0)) (C := RP) (T := FP) (N := 12) hx hb hta iP hown hK hP 0 rfl rfl 6 (by decide) (hta _ m_69) (fun _ h9 => h9) rfl dP_share_18 ?_
  refine va_getN (D := (dC, dI)) (ci := 0) (v := .long T.d) (C := RT) (T := FT) (N := 8) hx hb hta iT hown hK hP 6 rfl rfl 7 (by decide) (va_Nw.use rfl (hX _ nw_4)) (fun _ h9 => h9) rfl dP_share_21 ?_
  refine lv_iload_n hx hb dP_share_24 rfl (lv_at hl 2 rfl) ?_
  refine rd_call (va_runS (As := [.long (TS.start T (nI j)), .long T.d, .int pt]) (rest := []) ⟨hx, hb, hml, hown, hta⟩ (c_P_inLeastTerms l dC dI ad k (TS.start T (nI j)) T.d pt) (cwS 3 hta (gS m_442 m_443 m_1 m_444) rfl rfl rfl (by decide +kernel) ⟨Nat.le_of_ble_eq_true rfl, Nat.le_of_ble_eq_true rfl⟩) (rd_S xT_ok trivial (hK.sub [] rfl) va_P_nil) rfl rfl hl.1 rfl (lv_room (Nat.le_of_ble_eq_true rfl)) dP_share_25 ⟨Nat.zero_le _, Nat.zero_le _⟩) ?_
  refine W.eq (g2 := F0 m 28 ls [.long (ltM (TS.start T (nI j)) T.d pt)]) rfl ?_
  exact W.lret (v := ltM (TS.start T (nI j)) T.d pt) hx hb hr (fun t ht hW => ⟨rfl, ht⟩) (fun q h => nomatch h) dP_share_28

set_option maxHeartbeats 4000000 in
set_option maxRecDepth 100000 in
theorem c_P_dual (l : Launch) (dC : Nat → ClassId) (dI : Nat → Nat → Nat) (ad : Nat → Nat) (k : Nat → ClassId) (P : PS) (F : Nat → Int32) (T : TS) (r : Nat) (pt : Int32) (hro : P.rows ≤ 12) (hr9 : r < P.rows) (hri : P.rin ≤ 12) (hw : T.w ≤ 12) (hpt : pt = 0 ∨ pt = 1) : Met l yP_dual wP_dual ({ frames := 2, cells := 0, slots := 0, locals := 54 }) (rPc [.ref (ad 7), .int (nI r), .int pt] (dC, dI) vwCl (PW ad k P ++ (FW ad k F ++ TW ad k T)) (PK k ++ (FK k ++ TK k)) nW) (rQ (some (.long (ltM (duL P.K P.L T r 0 (liM P.K P.rin r) 0) T.d pt)))) 0 0 (fun _ => False) := by
  refine Met.ofW (cc := bP_dual) (maxL := 6) (ret := (some .long)) (by decide) rfl ?_
  intro p e s m args below meth c s₁ B hml hv
  obtain ⟨rfl, hP, hK, hX⟩ := hv
  have hx := B.exec
  have hb := B.bytes
  have hr := B.returns
  have hts := atoms_spec (ws := wP_dual) B.pre
  have hta : ∀ w ∈ AW, w.before _ s = true := fun w h => hts w (List.mem_cons_of_mem _ h)
  have hown : s.vm.findClass RP = some m.cls := findClass_of_methodNamed B.named
  have hlocks := B.notSynchronized
  have hl := lv_entry ([.ref (ad 7), .int (nI r), .int pt]) (n := 6) (Nat.le_of_ble_eq_true rfl)
  rw [lg_entry_eq]
  generalize (lg_sl ([.ref (ad 7), .int (nI r), .int pt]) ++ List.replicate (6 - (lg_sl ([.ref (ad 7), .int (nI r), .int pt])).length) Slot.unset).toArray = ls at hl ⊢
  have hl : lv_has ls 6 [(0, .ref (ad 7)), (1, .int (nI r)), (2, .int pt)] := hl
  refine lv_aload_n hx hb dP_dual_0 rfl (lv_at hl 0 rfl) ?_
  refine lv_iload_n hx hb dP_dual_1 rfl (lv_at hl 1 rfl) ?_
  refine rd_call (va_runV (As := [.int (nI r)]) (rest := []) ⟨hx, hb, hml, hown, hta⟩ (c_P_needRow l dC dI ad k P F T r (by first | omega | assumption) (by first | omega | assumption)) (cwV 1 hta (gV m_276 m_278 mp_11 m_1 m_279) rfl rfl rfl (by decide +kernel) ⟨Nat.le_of_ble_eq_true rfl, Nat.le_of_ble_eq_true rfl⟩) (rd_V nW_ok hX hK hP (ci := 1) (q0 := 0) rfl rfl) rfl rfl hl.1 rfl (lv_room (Nat.le_of_ble_eq_true rfl)) dP_dual_2 ⟨Nat.zero_le _, Nat.zero_le _⟩) ?_
  refine W.eq (g2 := F0 m 5 ls []) rfl ?_
  refine lv_iload_n hx hb dP_dual_5 rfl (lv_at hl 2 rfl) ?_
  refine rd_call (va_runS (As := [.int pt]) (rest := []) ⟨hx, hb, hml, hown, hta⟩ (c_P_needPart l dC dI ad k pt (by first | omega | assumption)) (cwS 1 hta (gS m_437 m_438 m_1 m_439) rfl rfl rfl (by decide +kernel) ⟨Nat.le_of_ble_eq_true rfl, Nat.le_of_ble_eq_true rfl⟩) (rd_S xT_ok trivial (hK.sub [] rfl) va_P_nil) rfl rfl hl.1 rfl (lv_room (Nat.le_of_ble_eq_true rfl)) dP_dual_6 ⟨Nat.zero_le _, Nat.zero_le _⟩) ?_
  refine W.eq (g2 := F0 m 9 ls []) rfl ?_
  refine lv_lconst (v := 0) hx hb dP_dual_9 (by decide) ?_
  refine lv_lstore_n (lv' := [(3, .long 0), (0, .ref (ad 7)), (1, .int (nI r)), (2, .int pt)]) hx hb dP_dual_10 rfl hl (by decide) rfl (fun ls hl => ?_)
  refine lv_iconst (v := nI 0) hx hb dP_dual_11 (by decide) ?_
  refine lv_istore (lv' := [(5, .int (nI 0)), (3, .long 0), (0, .ref (ad 7)), (1, .int (nI r)), (2, .int pt)]) hx hb dP_dual_12 hl (by decide) rfl (fun ls hl => ?_)
  have loop14 : ∀ (n : Nat) (j : Nat) (acc : Int64) (ls : Array Slot), (j + n = liM P.K P.rin r) → (duL P.K P.L T r j n acc = duL P.K P.L T r 0 (liM P.K P.rin r) 0) → lv_has ls 6 [(5, .int (nI j)), (3, .long acc), (0, .ref (ad 7)), (1, .int (nI r)), (2, .int pt)] → W p l e (headSpec wP_dual ({ frames := 2, cells := 0, slots := 0, locals := 54 })).room s m ([.ref (ad 7), .int (nI r), .int pt] : List Value).toArray below meth c s.heap [] 0 0 (MQ below (rQ (some (.long (ltM (duL P.K P.L T r 0 (liM P.K P.rin r) 0) T.d pt)))) ([.ref (ad 7), .int (nI r), .int pt] : List Value).toArray s 0 0 (fun _ => False)) (F0 m 14 ls []) := by
    intro n
    induction n with
    | zero =>
      intro j acc ls hn hq hl
      have hli := liM_le P.K P.rin r
      refine lv_iload hx hb dP_dual_14 (lv_at hl 0 rfl) ?_
      refine lv_aload_n hx hb dP_dual_16 rfl (lv_at hl 2 rfl) ?_
      refine lv_iload_n hx hb dP_dual_17 rfl (lv_at hl 3 rfl) ?_
      refine rd_call (va_runV (As := [.int (nI r)]) (rest := [.int (nI j)]) ⟨hx, hb, hml, hown, hta⟩ (c_P_linesInTable l dC dI ad k P F T r (by first | omega | exact hw | exact hh) (by first | omega | exact hw | exact hh)) (cwV 1 hta (gV m_466 m_468 mp_37 m_1 m_469) rfl rfl rfl (by decide +kernel) ⟨Nat.le_of_ble_eq_true rfl, Nat.le_of_ble_eq_true rfl⟩) (rd_V nW_ok hX hK hP (ci := 1) (q0 := 0) rfl rfl) rfl rfl hl.1 rfl (lv_room (Nat.le_of_ble_eq_true rfl)) dP_dual_18 ⟨Nat.zero_le _, Nat.zero_le _⟩) ?_
      refine W.eq (g2 := F0 m 21 ls [.int (nI (liM P.K P.rin r)), .int (nI j)]) rfl ?_
      refine ni_ge (tgt := 57) hx hb dP_dual_21 (by decide) (by omega) (by omega) (fun c_1 => ?_) (fun c_1 => ?_)
      · refine lv_lload_n hx hb dP_dual_57 rfl (lv_at hl 1 rfl) ?_
        refine lv_aload_n hx hb dP_dual_58 rfl (lv_at hl 2 rfl) ?_
        refine va_get (D := (dC, dI)) (ci := 1) (v := .ref (ad 0)) (C := RP) (T := FP) (N := 12) hx hb hta iP hown hK hP 0 rfl rfl 6 (by decide) (hta _ m_69) (fun _ h9 => h9) rfl dP_dual_59 ?_
        refine va_getN (D := (dC, dI)) (ci := 0) (v := .long T.d) (C := RT) (T := FT) (N := 8) hx hb hta iT hown hK hP 6 rfl rfl 7 (by decide) (va_Nw.use rfl (hX _ nw_4)) (fun _ h9 => h9) rfl dP_dual_62 ?_
        refine lv_iload_n hx hb dP_dual_65 rfl (lv_at hl 4 rfl) ?_
        refine rd_call (va_runS (As := [.long acc, .long T.d, .int pt]) (rest := []) ⟨hx, hb, hml, hown, hta⟩ (c_P_inLeastTerms l dC dI ad k acc T.d pt) (cwS 3 hta (gS m_442 m_443 m_1 m_444) rfl rfl rfl (by decide +kernel) ⟨Nat.le_of_ble_eq_true rfl, Nat.le_of_ble_eq_true rfl⟩) (rd_S xT_ok trivial (hK.sub [] rfl) va_P_nil) rfl rfl hl.1 rfl (lv_room (Nat.le_of_ble_eq_true rfl)) dP_dual_66 ⟨Nat.zero_le _, Nat.zero_le _⟩) ?_
        refine W.eq (g2 := F0 m 69 ls [.long (ltM acc T.d pt)]) rfl ?_
        exact W.lret (v := ltM acc T.d pt) hx hb hr (fun t ht hW => ⟨congrArg (fun z => Outcome.returned (some (.long z))) (by rw [← hq]; rfl), ht⟩) (fun q h => nomatch h) dP_dual_69
      · exfalso; omega
    | succ n ih =>
      intro j acc ls hn hq hl
      have hli := liM_le P.K P.rin r
      refine lv_iload hx hb dP_dual_14 (lv_at hl 0 rfl) ?_
      refine lv_aload_n hx hb dP_dual_16 rfl (lv_at hl 2 rfl) ?_
      refine lv_iload_n hx hb dP_dual_17 rfl (lv_at hl 3 rfl) ?_
      refine rd_call (va_runV (As := [.int (nI r)]) (rest := [.int (nI j)]) ⟨hx, hb, hml, hown, hta⟩ (c_P_linesInTable l dC dI ad k P F T r (by first | omega | exact hw | exact hh) (by first | omega | exact hw | exact hh)) (cwV 1 hta (gV m_466 m_468 mp_37 m_1 m_469) rfl rfl rfl (by decide +kernel) ⟨Nat.le_of_ble_eq_true rfl, Nat.le_of_ble_eq_true rfl⟩) (rd_V nW_ok hX hK hP (ci := 1) (q0 := 0) rfl rfl) rfl rfl hl.1 rfl (lv_room (Nat.le_of_ble_eq_true rfl)) dP_dual_18 ⟨Nat.zero_le _, Nat.zero_le _⟩) ?_
      refine W.eq (g2 := F0 m 21 ls [.int (nI (liM P.K P.rin r)), .int (nI j)]) rfl ?_
      refine ni_ge (tgt := 57) hx hb dP_dual_21 (by decide) (by omega) (by omega) (fun c_2 => ?_) (fun c_2 => ?_)
      · exfalso; omega
      · refine lv_lload_n hx hb dP_dual_24 rfl (lv_at hl 1 rfl) ?_
        refine lv_aload_n hx hb dP_dual_25 rfl (lv_at hl 2 rfl) ?_
        refine lv_iload_n hx hb dP_dual_26 rfl (lv_at hl 3 rfl) ?_
        refine lv_iload hx hb dP_dual_27 (lv_at hl 0 rfl) ?_
        refine rd_call (va_runV (As := [.int (nI r), .int (nI j)]) (rest := [.long acc]) ⟨hx, hb, hml, hown, hta⟩ (c_P_signOf l dC dI ad k P F T r j (by first | omega | exact hw | exact hh) (by first | omega | exact hw | exact hh)) (cwV 2 hta (gV m_334 m_336 mp_17 m_1 m_337) rfl rfl rfl (by decide +kernel) ⟨Nat.le_of_ble_eq_true rfl, Nat.le_of_ble_eq_true rfl⟩) (rd_V nW_ok hX hK hP (ci := 1) (q0 := 0) rfl rfl) rfl rfl hl.1 rfl (lv_room (Nat.le_of_ble_eq_true rfl)) dP_dual_29 ⟨Nat.zero_le _, Nat.zero_le _⟩) ?_
        refine W.eq (g2 := F0 m 32 ls [.int (sgM P.K r j), .long acc]) rfl ?_
        refine lv_i2l (v := (sgM P.K r j).toInt64) hx hb dP_dual_32 rfl ?_
        refine lv_aload_n hx hb dP_dual_33 rfl (lv_at hl 2 rfl) ?_
        refine va_get (D := (dC, dI)) (ci := 1) (v := .ref (ad 0)) (C := RP) (T := FP) (N := 12) hx hb hta iP hown hK hP 0 rfl rfl 6 (by decide) (hta _ m_69) (fun _ h9 => h9) rfl dP_dual_34 ?_
        refine lv_iconst (v := nI 0) hx hb dP_dual_37 (by decide) ?_
        refine lv_aload_n hx hb dP_dual_38 rfl (lv_at hl 2 rfl) ?_
        refine lv_iload_n hx hb dP_dual_39 rfl (lv_at hl 3 rfl) ?_
        refine lv_iload hx hb dP_dual_40 (lv_at hl 0 rfl) ?_
        refine rd_call (va_runV (As := [.int (nI r), .int (nI j)]) (rest := [.int (nI 0), .ref (ad 0), .long ((sgM P.K r j).toInt64), .long acc]) ⟨hx, hb, hml, hown, hta⟩ (c_P_variableOf l dC dI ad k P F T r j (by first | omega | exact hw | exact hh)) (cwV 2 hta (gV m_330 m_332 mp_16 m_1 m_333) rfl rfl rfl (by decide +kernel) ⟨Nat.le_of_ble_eq_true rfl, Nat.le_of_ble_eq_true rfl⟩) (rd_V nW_ok hX hK hP (ci := 1) (q0 := 0) rfl rfl) rfl rfl hl.1 rfl (lv_room (Nat.le_of_ble_eq_true rfl)) dP_dual_42 ⟨Nat.zero_le _, Nat.zero_le _⟩) ?_
        refine W.eq (g2 := F0 m 45 ls [.int (nI T.w + P.L r + nI j), .int (nI 0), .ref (ad 0), .long ((sgM P.K r j).toInt64), .long acc]) rfl ?_
        refine rd_call (va_runVN (As := [.int (nI 0), .int (nI T.w + P.L r + nI j)]) (rest := [.long ((sgM P.K r j).toInt64), .long acc]) ⟨hx, hb, hml, hown, hta⟩ (c_T_numberBy l dC dI ad k T 0 (nI T.w + P.L r + nI j) (by first | omega | exact hw | exact hh) (by first | omega | exact hw | exact hh)) ⟨(va_cnB 2 hta (gC m_473) rfl rfl rfl (hX _ nw_19) (hta _ m_2) (by decide +kernel) ⟨Nat.le_of_ble_eq_true rfl, Nat.le_of_ble_eq_true rfl⟩), hta _ m_472, hta _ mp_38⟩ (rd_V xT_ok trivial (hK.sub [5, 6, 7, 8, 9] rfl) (hP.sub [6, 7, 8, 9, 10, 11] rfl) (ci := 0) (q0 := 0) rfl rfl) rfl rfl hl.1 rfl (lv_room (Nat.le_of_ble_eq_true rfl)) dP_dual_45 ⟨Nat.zero_le _, Nat.zero_le _⟩) ?_
        refine W.eq (g2 := F0 m 48 ls [.long (TS.num T 0 (nI T.w + P.L r + nI j)), .long ((sgM P.K r j).toInt64), .long acc]) rfl ?_
        refine lv_lmul hx hb dP_dual_48 ?_
        refine lv_ladd hx hb dP_dual_49 ?_
        refine lv_lstore_n (lv' := [(3, .long (acc + (((sgM P.K r j).toInt64) * (TS.num T 0 (nI T.w + P.L r + nI j))))), (5, .int (nI j)), (0, .ref (ad 7)), (1, .int (nI r)), (2, .int pt)]) hx hb dP_dual_50 rfl hl (by decide) rfl (fun ls hl => ?_)
        refine lv_iinc (v := nI (j + 1)) (lv' := [(5, .int (nI (j + 1))), (3, .long (acc + (((sgM P.K r j).toInt64) * (TS.num T 0 (nI T.w + P.L r + nI j))))), (0, .ref (ad 7)), (1, .int (nI r)), (2, .int pt)]) hx hb dP_dual_51 hl (k := 1) rfl (nI_add j 1) (by decide) rfl (fun ls hl => ?_)
        refine lv_goto (tgt := 14) hx hb dP_dual_54 (by decide) ?_
        exact ih (j + 1) (acc + (((sgM P.K r j).toInt64) * (TS.num T 0 (nI T.w + P.L r + nI j)))) ls (by omega) (by rw [← hq]; rfl) (lv_sub hl [0, 1, 2, 3, 4] rfl)
  exact loop14 (liM P.K P.rin r) 0 0 ls (by omega) rfl (lv_sub hl [0, 1, 2, 3, 4] rfl)

set_option maxHeartbeats 4000000 in
set_option maxRecDepth 100000 in
theorem c_P_factorOf (l : Launch) (dC : Nat → ClassId) (dI : Nat → Nat → Nat) (ad : Nat → Nat) (k : Nat → ClassId) (P : PS) (F : Nat → Int32) (T : TS) (r : Nat) (pt : Int32) (hro : P.rows ≤ 12) (hr9 : r < P.rows) (hri : P.rin ≤ 12) (hw : T.w ≤ 12) (hh : T.h ≤ 24) (hla : P.lat = 1) (hpt : pt = 0 ∨ pt = 1) : Met l yP_factorOf wP_factorOf ({ frames := 3, cells := 0, slots := 0, locals := 67 }) (rPc [.ref (ad 7), .int (nI r), .int pt] (dC, dI) vwCl (PW ad k P ++ (FW ad k F ++ TW ad k T)) (PK k ++ (FK k ++ TK k)) nW) (rQ (some (.long (ltM (foL P.K P.L T (lvM T 1 T.h none) r 0 (liM P.K P.rin r) 0) T.d pt)))) 0 0 (fun _ => False) := by
  refine Met.ofW (cc := bP_factorOf) (maxL := 7) (ret := (some .long)) (by decide) rfl ?_
  intro p e s m args below meth c s₁ B hml hv
  obtain ⟨rfl, hP, hK, hX⟩ := hv
  have hx := B.exec
  have hb := B.bytes
  have hr := B.returns
  have hts := atoms_spec (ws := wP_factorOf) B.pre
  have hta : ∀ w ∈ AW, w.before _ s = true := fun w h => hts w (List.mem_cons_of_mem _ h)
  have hown : s.vm.findClass RP = some m.cls := findClass_of_methodNamed B.named
  have hlocks := B.notSynchronized
  have hl := lv_entry ([.ref (ad 7), .int (nI r), .int pt]) (n := 7) (Nat.le_of_ble_eq_true rfl)
  rw [lg_entry_eq]
  generalize (lg_sl ([.ref (ad 7), .int (nI r), .int pt]) ++ List.replicate (7 - (lg_sl ([.ref (ad 7), .int (nI r), .int pt])).length) Slot.unset).toArray = ls at hl ⊢
  have hl : lv_has ls 7 [(0, .ref (ad 7)), (1, .int (nI r)), (2, .int pt)] := hl
  refine lv_aload_n hx hb dP_factorOf_0 rfl (lv_at hl 0 rfl) ?_
  refine lv_iload_n hx hb dP_factorOf_1 rfl (lv_at hl 1 rfl) ?_
  refine rd_call (va_runV (As := [.int (nI r)]) (rest := []) ⟨hx, hb, hml, hown, hta⟩ (c_P_needRow l dC dI ad k P F T r (by first | omega | assumption) (by first | omega | assumption)) (cwV 1 hta (gV m_276 m_278 mp_11 m_1 m_279) rfl rfl rfl (by decide +kernel) ⟨Nat.le_of_ble_eq_true rfl, Nat.le_of_ble_eq_true rfl⟩) (rd_V nW_ok hX hK hP (ci := 1) (q0 := 0) rfl rfl) rfl rfl hl.1 rfl (lv_room (Nat.le_of_ble_eq_true rfl)) dP_factorOf_2 ⟨Nat.zero_le _, Nat.zero_le _⟩) ?_
  refine W.eq (g2 := F0 m 5 ls []) rfl ?_
  refine lv_aload_n hx hb dP_factorOf_5 rfl (lv_at hl 0 rfl) ?_
  refine va_get (D := (dC, dI)) (ci := 1) (v := .int P.lat) (C := RP) (T := FP) (N := 12) hx hb hta iP hown hK hP 0 rfl rfl 11 (by decide) (hta _ m_74) (fun _ h9 => h9) rfl dP_factorOf_6 ?_
  refine lv_iconst (v := 1) hx hb dP_factorOf_9 (by decide) ?_
  refine lv_icmp_eq (tgt := 23) hx hb dP_factorOf_10 (by decide) (fun h1 => ?_) (fun h1 => ?_)
  · refine lv_iload_n hx hb dP_factorOf_23 rfl (lv_at hl 2 rfl) ?_
    refine rd_call (va_runS (As := [.int pt]) (rest := []) ⟨hx, hb, hml, hown, hta⟩ (c_P_needPart l dC dI ad k pt (by first | omega | assumption)) (cwS 1 hta (gS m_437 m_438 m_1 m_439) rfl rfl rfl (by decide +kernel) ⟨Nat.le_of_ble_eq_true rfl, Nat.le_of_ble_eq_true rfl⟩) (rd_S xT_ok trivial (hK.sub [] rfl) va_P_nil) rfl rfl hl.1 rfl (lv_room (Nat.le_of_ble_eq_true rfl)) dP_factorOf_24 ⟨Nat.zero_le _, Nat.zero_le _⟩) ?_
    refine W.eq (g2 := F0 m 27 ls []) rfl ?_
    refine lv_aload_n hx hb dP_factorOf_27 rfl (lv_at hl 0 rfl) ?_
    refine va_get (D := (dC, dI)) (ci := 1) (v := .ref (ad 0)) (C := RP) (T := FP) (N := 12) hx hb hta iP hown hK hP 0 rfl rfl 6 (by decide) (hta _ m_69) (fun _ h9 => h9) rfl dP_factorOf_28 ?_
    refine rd_call (va_runVN (As := []) (rest := []) ⟨hx, hb, hml, hown, hta⟩ (c_T_leavingPlace l dC dI ad k T (by first | omega | exact hw | exact hh)) ⟨(va_cnB 0 hta (gC m_397) rfl rfl rfl (hX _ nw_13) (hta _ m_2) (by decide +kernel) ⟨Nat.le_of_ble_eq_true rfl, Nat.le_of_ble_eq_true rfl⟩), hta _ m_396, hta _ mp_28⟩ (rd_V xT_ok trivial (hK.sub [5, 6, 7, 8, 9] rfl) (hP.sub [6, 7, 8, 9, 10, 11] rfl) (ci := 0) (q0 := 0) rfl rfl) rfl rfl hl.1 rfl (lv_room (Nat.le_of_ble_eq_true rfl)) dP_factorOf_31 ⟨Nat.zero_le _, Nat.zero_le _⟩) ?_
    refine W.eq (g2 := F0 m 34 ls [.int (enc (lvM T 1 T.h none))]) rfl ?_
    refine lv_istore_n (lv' := [(3, .int (enc (lvM T 1 T.h none))), (0, .ref (ad 7)), (1, .int (nI r)), (2, .int pt)]) hx hb dP_factorOf_34 rfl hl (by decide) rfl (fun ls hl => ?_)
    refine lv_lconst (v := 0) hx hb dP_factorOf_35 (by decide) ?_
    refine lv_lstore (lv' := [(4, .long 0), (3, .int (enc (lvM T 1 T.h none))), (0, .ref (ad 7)), (1, .int (nI r)), (2, .int pt)]) hx hb dP_factorOf_36 hl (by decide) rfl (fun ls hl => ?_)
    refine lv_iconst (v := nI 0) hx hb dP_factorOf_38 (by decide) ?_
    refine lv_istore (lv' := [(6, .int (nI 0)), (4, .long 0), (3, .int (enc (lvM T 1 T.h none))), (0, .ref (ad 7)), (1, .int (nI r)), (2, .int pt)]) hx hb dP_factorOf_39 hl (by decide) rfl (fun ls hl => ?_)
    have loop41 : ∀ (n : Nat) (j : Nat) (acc : Int64) (ls : Array Slot), (j + n = liM P.K P.rin r) → (foL P.K P.L T (lvM T 1 T.h none) r j n acc = foL P.K P.L T (lvM T 1 T.h none) r 0 (liM P.K P.rin r) 0) → lv_has ls 7 [(6, .int (nI j)), (4, .long acc), (3, .int (enc (lvM T 1 T.h none))), (0, .ref (ad 7)), (1, .int (nI r)), (2, .int pt)] → W p l e (headSpec wP_factorOf ({ frames := 3, cells := 0, slots := 0, locals := 67 })).room s m ([.ref (ad 7), .int (nI r), .int pt] : List Value).toArray below meth c s.heap [] 0 0 (MQ below (rQ (some (.long (ltM (foL P.K P.L T (lvM T 1 T.h none) r 0 (liM P.K P.rin r) 0) T.d pt)))) ([.ref (ad 7), .int (nI r), .int pt] : List Value).toArray s 0 0 (fun _ => False)) (F0 m 41 ls []) := by
      intro n
      induction n with
      | zero =>
        intro j acc ls hn hq hl
        have hli := liM_le P.K P.rin r
        refine lv_iload hx hb dP_factorOf_41 (lv_at hl 0 rfl) ?_
        refine lv_aload_n hx hb dP_factorOf_43 rfl (lv_at hl 3 rfl) ?_
        refine lv_iload_n hx hb dP_factorOf_44 rfl (lv_at hl 4 rfl) ?_
        refine rd_call (va_runV (As := [.int (nI r)]) (rest := [.int (nI j)]) ⟨hx, hb, hml, hown, hta⟩ (c_P_linesInTable l dC dI ad k P F T r (by first | omega | exact hw | exact hh) (by first | omega | exact hw | exact hh)) (cwV 1 hta (gV m_466 m_468 mp_37 m_1 m_469) rfl rfl rfl (by decide +kernel) ⟨Nat.le_of_ble_eq_true rfl, Nat.le_of_ble_eq_true rfl⟩) (rd_V nW_ok hX hK hP (ci := 1) (q0 := 0) rfl rfl) rfl rfl hl.1 rfl (lv_room (Nat.le_of_ble_eq_true rfl)) dP_factorOf_45 ⟨Nat.zero_le _, Nat.zero_le _⟩) ?_
        refine W.eq (g2 := F0 m 48 ls [.int (nI (liM P.K P.rin r)), .int (nI j)]) rfl ?_
        refine ni_ge (tgt := 83) hx hb dP_factorOf_48 (by decide) (by omega) (by omega) (fun c_1 => ?_) (fun c_1 => ?_)
        · refine lv_lload hx hb dP_factorOf_83 (lv_at hl 1 rfl) ?_
          refine lv_aload_n hx hb dP_factorOf_85 rfl (lv_at hl 3 rfl) ?_
          refine va_get (D := (dC, dI)) (ci := 1) (v := .ref (ad 0)) (C := RP) (T := FP) (N := 12) hx hb hta iP hown hK hP 0 rfl rfl 6 (by decide) (hta _ m_69) (fun _ h9 => h9) rfl dP_factorOf_86 ?_
          refine va_getN (D := (dC, dI)) (ci := 0) (v := .long T.d) (C := RT) (T := FT) (N := 8) hx hb hta iT hown hK hP 6 rfl rfl 7 (by decide) (va_Nw.use rfl (hX _ nw_4)) (fun _ h9 => h9) rfl dP_factorOf_89 ?_
          refine lv_iload_n hx hb dP_factorOf_92 rfl (lv_at hl 5 rfl) ?_
          refine rd_call (va_runS (As := [.long acc, .long T.d, .int pt]) (rest := []) ⟨hx, hb, hml, hown, hta⟩ (c_P_inLeastTerms l dC dI ad k acc T.d pt) (cwS 3 hta (gS m_442 m_443 m_1 m_444) rfl rfl rfl (by decide +kernel) ⟨Nat.le_of_ble_eq_true rfl, Nat.le_of_ble_eq_true rfl⟩) (rd_S xT_ok trivial (hK.sub [] rfl) va_P_nil) rfl rfl hl.1 rfl (lv_room (Nat.le_of_ble_eq_true rfl)) dP_factorOf_93 ⟨Nat.zero_le _, Nat.zero_le _⟩) ?_
          refine W.eq (g2 := F0 m 96 ls [.long (ltM acc T.d pt)]) rfl ?_
          exact W.lret (v := ltM acc T.d pt) hx hb hr (fun t ht hW => ⟨congrArg (fun z => Outcome.returned (some (.long z))) (by rw [← hq]; rfl), ht⟩) (fun q h => nomatch h) dP_factorOf_96
        · exfalso; omega
      | succ n ih =>
        intro j acc ls hn hq hl
        have hli := liM_le P.K P.rin r
        refine lv_iload hx hb dP_factorOf_41 (lv_at hl 0 rfl) ?_
        refine lv_aload_n hx hb dP_factorOf_43 rfl (lv_at hl 3 rfl) ?_
        refine lv_iload_n hx hb dP_factorOf_44 rfl (lv_at hl 4 rfl) ?_
        refine rd_call (va_runV (As := [.int (nI r)]) (rest := [.int (nI j)]) ⟨hx, hb, hml, hown, hta⟩ (c_P_linesInTable l dC dI ad k P F T r (by first | omega | exact hw | exact hh) (by first | omega | exact hw | exact hh)) (cwV 1 hta (gV m_466 m_468 mp_37 m_1 m_469) rfl rfl rfl (by decide +kernel) ⟨Nat.le_of_ble_eq_true rfl, Nat.le_of_ble_eq_true rfl⟩) (rd_V nW_ok hX hK hP (ci := 1) (q0 := 0) rfl rfl) rfl rfl hl.1 rfl (lv_room (Nat.le_of_ble_eq_true rfl)) dP_factorOf_45 ⟨Nat.zero_le _, Nat.zero_le _⟩) ?_
        refine W.eq (g2 := F0 m 48 ls [.int (nI (liM P.K P.rin r)), .int (nI j)]) rfl ?_
        refine ni_ge (tgt := 83) hx hb dP_factorOf_48 (by decide) (by omega) (by omega) (fun c_2 => ?_) (fun c_2 => ?_)
        · exfalso; omega
        · refine lv_lload hx hb dP_factorOf_51 (lv_at hl 1 rfl) ?_
          refine lv_aload_n hx hb dP_factorOf_53 rfl (lv_at hl 3 rfl) ?_
          refine lv_iload_n hx hb dP_factorOf_54 rfl (lv_at hl 4 rfl) ?_
          refine lv_iload hx hb dP_factorOf_55 (lv_at hl 0 rfl) ?_
          refine rd_call (va_runV (As := [.int (nI r), .int (nI j)]) (rest := [.long acc]) ⟨hx, hb, hml, hown, hta⟩ (c_P_signOf l dC dI ad k P F T r j (by first | omega | exact hw | exact hh) (by first | omega | exact hw | exact hh)) (cwV 2 hta (gV m_334 m_336 mp_17 m_1 m_337) rfl rfl rfl (by decide +kernel) ⟨Nat.le_of_ble_eq_true rfl, Nat.le_of_ble_eq_true rfl⟩) (rd_V nW_ok hX hK hP (ci := 1) (q0 := 0) rfl rfl) rfl rfl hl.1 rfl (lv_room (Nat.le_of_ble_eq_true rfl)) dP_factorOf_57 ⟨Nat.zero_le _, Nat.zero_le _⟩) ?_
          refine W.eq (g2 := F0 m 60 ls [.int (sgM P.K r j), .long acc]) rfl ?_
          refine lv_i2l (v := (sgM P.K r j).toInt64) hx hb dP_factorOf_60 rfl ?_
          refine lv_aload_n hx hb dP_factorOf_61 rfl (lv_at hl 3 rfl) ?_
          refine lv_iload_n hx hb dP_factorOf_62 rfl (lv_at hl 2 rfl) ?_
          refine lv_aload_n hx hb dP_factorOf_63 rfl (lv_at hl 3 rfl) ?_
          refine lv_iload_n hx hb dP_factorOf_64 rfl (lv_at hl 4 rfl) ?_
          refine lv_iload hx hb dP_factorOf_65 (lv_at hl 0 rfl) ?_
          refine rd_call (va_runV (As := [.int (nI r), .int (nI j)]) (rest := [.int (enc (lvM T 1 T.h none)), .ref (ad 7), .long ((sgM P.K r j).toInt64), .long acc]) ⟨hx, hb, hml, hown, hta⟩ (c_P_variableOf l dC dI ad k P F T r j (by first | omega | exact hw | exact hh)) (cwV 2 hta (gV m_330 m_332 mp_16 m_1 m_333) rfl rfl rfl (by decide +kernel) ⟨Nat.le_of_ble_eq_true rfl, Nat.le_of_ble_eq_true rfl⟩) (rd_V nW_ok hX hK hP (ci := 1) (q0 := 0) rfl rfl) rfl rfl hl.1 rfl (lv_room (Nat.le_of_ble_eq_true rfl)) dP_factorOf_67 ⟨Nat.zero_le _, Nat.zero_le _⟩) ?_
          refine W.eq (g2 := F0 m 70 ls [.int (nI T.w + P.L r + nI j), .int (enc (lvM T 1 T.h none)), .ref (ad 7), .long ((sgM P.K r j).toInt64), .long acc]) rfl ?_
          refine rd_call (va_runV (As := [.int (enc (lvM T 1 T.h none)), .int (nI T.w + P.L r + nI j)]) (rest := [.long ((sgM P.K r j).toInt64), .long acc]) ⟨hx, hb, hml, hown, hta⟩ (c_P_timesTaken l dC dI ad k P F T (lvM T 1 T.h none) (nI T.w + P.L r + nI j) hw (fun j h => by have := lvM_lt h; omega)) (cwV 2 hta (gV m_482 m_484 mp_39 m_1 m_485) rfl rfl rfl (by decide +kernel) ⟨Nat.le_of_ble_eq_true rfl, Nat.le_of_ble_eq_true rfl⟩) (rd_V nW_ok hX hK hP (ci := 1) (q0 := 0) rfl rfl) rfl rfl hl.1 rfl (lv_room (Nat.le_of_ble_eq_true rfl)) dP_factorOf_70 ⟨Nat.zero_le _, Nat.zero_le _⟩) ?_
          refine W.eq (g2 := F0 m 73 ls [.long (tmM T (lvM T 1 T.h none) (nI T.w + P.L r + nI j)), .long ((sgM P.K r j).toInt64), .long acc]) rfl ?_
          refine lv_lmul hx hb dP_factorOf_73 ?_
          refine lv_ladd hx hb dP_factorOf_74 ?_
          refine lv_lstore (lv' := [(4, .long (acc + (((sgM P.K r j).toInt64) * (tmM T (lvM T 1 T.h none) (nI T.w + P.L r + nI j))))), (6, .int (nI j)), (3, .int (enc (lvM T 1 T.h none))), (0, .ref (ad 7)), (1, .int (nI r)), (2, .int pt)]) hx hb dP_factorOf_75 hl (by decide) rfl (fun ls hl => ?_)
          refine lv_iinc (v := nI (j + 1)) (lv' := [(6, .int (nI (j + 1))), (4, .long (acc + (((sgM P.K r j).toInt64) * (tmM T (lvM T 1 T.h none) (nI T.w + P.L r + nI j))))), (3, .int (enc (lvM T 1 T.h none))), (0, .ref (ad 7)), (1, .int (nI r)), (2, .int pt)]) hx hb dP_factorOf_77 hl (k := 1) rfl (nI_add j 1) (by decide) rfl (fun ls hl => ?_)
          refine lv_goto (tgt := 41) hx hb dP_factorOf_80 (by decide) ?_
          exact ih (j + 1) (acc + (((sgM P.K r j).toInt64) * (tmM T (lvM T 1 T.h none) (nI T.w + P.L r + nI j)))) ls (by omega) (by rw [← hq]; rfl) (lv_sub hl [0, 1, 2, 3, 4, 5] rfl)
    exact loop41 (liM P.K P.rin r) 0 0 ls (by omega) rfl (lv_sub hl [0, 1, 2, 3, 4, 5] rfl)
  · exact absurd hla h1
