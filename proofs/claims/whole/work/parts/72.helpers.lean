set_option maxHeartbeats 4000000 in
set_option maxRecDepth 100000 in
theorem h_L_column (l : Launch) (hlt : l.stackTraces = false) (dC : Nat → ClassId) (dI : Nat → Nat → Nat) (ad : Nat → Nat) (k : Nat → ClassId) (oa : Nat) (ko : ClassId) (o : Nat → Int64) (P : PS) (F : Nat → Int32) (T : TS) (sz : Nat) (v : Int64) (hw : T.w ≤ 12) (hh : T.h ≤ 24) (hro : P.rows ≤ 12) (hri : P.rin ≤ P.rows) : vx_Met l yL_column wL_column ({ frames := 8, cells := 1, slots := 6, locals := 150 }) (hPc [.ref (ad 7), .long v, .ref oa] sz (dC, dI) vwCl (OW oa ko o ++ (PW ad k P ++ (FW ad k F ++ TW ad k T))) (OQ ko ++ (PK k ++ (FK k ++ TK k)))) (wQ (some (.int (nI (kCo P T v)))) (dC, dI) vwCl (OW oa ko (oU (kCo P T v) o ((nI T.w).toInt64)) ++ (PW ad k P ++ (FW ad k F ++ TW ad k (tCo P T v)))) (va_A (OW oa ko o ++ (PW ad k P ++ (FW ad k F ++ TW ad k T))) sz)) (fun _ _ _ => False) 1 6 (va_A (OW oa ko o ++ (PW ad k P ++ (FW ad k F ++ TW ad k T))) sz) := by
  refine vx_ofWH (cc := bL_column) (maxL := 5) (ret := (some .int)) (by decide) rfl ?_
  intro p e s m args below meth c s₁ B hml hv
  obtain ⟨rfl, hsz, hP, hK, hD0, hX, hss, hzz⟩ := hv
  have hx := B.exec
  have hb := B.bytes
  have hr := B.returns
  have hts := atoms_spec (ws := wL_column) B.pre
  have hta : ∀ w ∈ AW, w.before _ s = true := fun w h => hts w (List.mem_cons_of_mem _ h)
  have hown : s.vm.findClass RL = some m.cls := findClass_of_methodNamed B.named
  have hlocks := B.notSynchronized
  have htb := vx_table (x := yL_column) B (hts _ List.mem_cons_self)
  subst hsz
  have hD := hD0.self (sz := s.heap.size)
  generalize hAe : va_A (OW oa ko o ++ (PW ad k P ++ (FW ad k F ++ TW ad k T))) s.heap.size = A at hD ⊢
  have hA : ∀ q : Nat, s.heap.size ≤ q → A q := fun q h => by rw [← hAe]; exact Or.inr h
  have hS : va_S A s.heap s.heap [] := va_S.rf
  have hl := lv_entry ([.ref (ad 7), .long v, .ref oa]) (n := 5) (Nat.le_of_ble_eq_true rfl)
  rw [lg_entry_eq]
  generalize (lg_sl ([.ref (ad 7), .long v, .ref oa]) ++ List.replicate (5 - (lg_sl ([.ref (ad 7), .long v, .ref oa])).length) Slot.unset).toArray = ls at hl ⊢
  by_cases h1 : P.run = true ∨ 12 ≤ T.w
  · have hk9 : kCo P T v = 1 := by rw [kCo, if_pos h1]
    have hl : lv_has ls 5 [(0, .ref (ad 7)), (1, .long v), (3, .ref oa)] := hl
    have eO : oU (kCo P T v) o ((nI T.w).toInt64) = o := by rw [oU, if_neg (by rw [hk9]; decide)]
    have eT : tCo P T v = T := by rw [tCo, if_neg (by rw [hk9]; decide)]
    refine lv_aload_n hx hb dL_column_0 rfl (lv_at hl 2 rfl) ?_
    refine lv_iconst (v := nI 0) hx hb dL_column_1 (by decide) ?_
    refine lv_aload_n hx hb dL_column_2 rfl (lv_at hl 0 rfl) ?_
    refine lv_lload_n hx hb dL_column_3 rfl (lv_at hl 1 rfl) ?_
    refine tx_call (vx_runV (As := [.long v]) (rest := [.int (nI 0), .ref oa]) ⟨hx, hb, hml, hown, hta⟩ (t_P_column_S l hlt dC dI ad k P F T v h1 hw) (cwV 1 hta (gV m_147 m_148 m_149 m_1 m_150) rfl rfl rfl (by decide +kernel) ⟨Nat.le_of_ble_eq_true rfl, Nat.le_of_ble_eq_true rfl⟩) (td_V hX hss hzz (hK.sub [1, 2, 3, 4, 5, 6, 7, 8, 9, 10] rfl) (hP.sub [1, 2, 3, 4, 5, 6, 7, 8, 9, 10, 11, 12] rfl) (ci := 1) (q0 := 0) rfl rfl) rfl rfl hl.1 rfl (lv_room (Nat.le_of_ble_eq_true rfl)) dL_column_4 ⟨Nat.le_of_ble_eq_true rfl, Nat.le_of_ble_eq_true rfl⟩) (fun ce q9 H1 k1 k2 k3 k4 k5 => ?_)
    have hP1 := hP_new hP k2
    refine vx_catch (E := eS) (name := eS) (pc := 4) (ls := ls) hown [] { startPc := 0, endPc := 9, handlerPc := 12, catchType := 13 } [{ startPc := 0, endPc := 9, handlerPc := 16, catchType := 15 }] (htb.trans rfl) (fun z hz => nomatch hz) (by decide) (by decide) (hta _ m_145) (va_Nw.use rfl (hss.2.1 (.castable eS eS) (by decide))) k3 k4 k5 ?_
    refine lv_astore (lv' := [(4, .ref q9), (0, .ref (ad 7)), (1, .long v), (3, .ref oa)]) hx hb dL_column_12 hl (by decide) rfl (fun ls hl => ?_)
    refine lv_iconst (v := nI 1) hx hb dL_column_14 (by decide) ?_
    exact vx_ret (W.iret (v := nI 1) hx hb hr (fun t ht hW => ⟨by rw [hk9], by rw [ht, eO, eT]; exact hP1, by rw [ht]; exact k1, fun q h _ => by rw [ht]; exact k2 q h⟩) (fun q h => nomatch h) dL_column_15)
  · by_cases h2 : v < 0 ∨ 1000 < v
    · have hk9 : kCo P T v = 2 := by rw [kCo, if_neg h1, if_pos h2]
      have hl : lv_has ls 5 [(0, .ref (ad 7)), (1, .long v), (3, .ref oa)] := hl
      have eO : oU (kCo P T v) o ((nI T.w).toInt64) = o := by rw [oU, if_neg (by rw [hk9]; decide)]
      have eT : tCo P T v = T := by rw [tCo, if_neg (by rw [hk9]; decide)]
      refine lv_aload_n hx hb dL_column_0 rfl (lv_at hl 2 rfl) ?_
      refine lv_iconst (v := nI 0) hx hb dL_column_1 (by decide) ?_
      refine lv_aload_n hx hb dL_column_2 rfl (lv_at hl 0 rfl) ?_
      refine lv_lload_n hx hb dL_column_3 rfl (lv_at hl 1 rfl) ?_
      refine tx_call (vx_runV (As := [.long v]) (rest := [.int (nI 0), .ref oa]) ⟨hx, hb, hml, hown, hta⟩ (t_P_column_A l hlt dC dI ad k P F T v (Bool.eq_false_iff.mpr (fun z => h1 (Or.inl z))) (Nat.not_le.mp (fun z => h1 (Or.inr z))) h2) (cwV 1 hta (gV m_147 m_148 m_149 m_1 m_150) rfl rfl rfl (by decide +kernel) ⟨Nat.le_of_ble_eq_true rfl, Nat.le_of_ble_eq_true rfl⟩) (td_V hX hss hzz (hK.sub [1, 2, 3, 4, 5, 6, 7, 8, 9, 10] rfl) (hP.sub [1, 2, 3, 4, 5, 6, 7, 8, 9, 10, 11, 12] rfl) (ci := 1) (q0 := 0) rfl rfl) rfl rfl hl.1 rfl (lv_room (Nat.le_of_ble_eq_true rfl)) dL_column_4 ⟨Nat.le_of_ble_eq_true rfl, Nat.le_of_ble_eq_true rfl⟩) (fun ce q9 H1 k1 k2 k3 k4 k5 => ?_)
      have hP1 := hP_new hP k2
      refine vx_catch (E := eA) (name := eA) (pc := 4) (ls := ls) hown [{ startPc := 0, endPc := 9, handlerPc := 12, catchType := 13 }] { startPc := 0, endPc := 9, handlerPc := 16, catchType := 15 } [] (htb.trans rfl) (fun z hz => by
          simp only [List.mem_cons, List.not_mem_nil, or_false] at hz
          subst hz
          exact Or.inr ⟨by decide, eS, hta _ m_145, hss.2.2 (eA, eS) (by decide)⟩) (by decide) (by decide) (hta _ m_146) (va_Nw.use rfl (hss.2.1 (.castable eA eA) (by decide))) k3 k4 k5 ?_
      refine lv_astore (lv' := [(4, .ref q9), (0, .ref (ad 7)), (1, .long v), (3, .ref oa)]) hx hb dL_column_16 hl (by decide) rfl (fun ls hl => ?_)
      refine lv_iconst (v := nI 2) hx hb dL_column_18 (by decide) ?_
      exact vx_ret (W.iret (v := nI 2) hx hb hr (fun t ht hW => ⟨by rw [hk9], by rw [ht, eO, eT]; exact hP1, by rw [ht]; exact k1, fun q h _ => by rw [ht]; exact k2 q h⟩) (fun q h => nomatch h) dL_column_19)
    · have hk9 : kCo P T v = 0 := by rw [kCo, if_neg h1, if_neg h2]
      have hl : lv_has ls 5 [(0, .ref (ad 7)), (1, .long v), (3, .ref oa)] := hl
      have eO : oU (kCo P T v) o ((nI T.w).toInt64) = vp_updL o 0 ((nI T.w).toInt64) := by rw [oU, if_pos hk9]
      have eT : tCo P T v = (ts (vp_updL T.C (0 * 13 + (T.w + 1)) v) T.I (upd T.O (T.w + 1) (nI T.w)) T.G T.S (T.w + 1) T.h T.d) := by rw [tCo, if_pos hk9]
      refine lv_aload_n hx hb dL_column_0 rfl (lv_at hl 2 rfl) ?_
      refine lv_iconst (v := nI 0) hx hb dL_column_1 (by decide) ?_
      refine lv_aload_n hx hb dL_column_2 rfl (lv_at hl 0 rfl) ?_
      refine lv_lload_n hx hb dL_column_3 rfl (lv_at hl 1 rfl) ?_
      refine wr_call (X := OW oa ko o) (va_runV (As := [.long v]) (rest := [.int (nI 0), .ref oa]) ⟨hx, hb, hml, hown, hta⟩ (c_P_column l dC dI ad k P F T s.heap.size v (Bool.eq_false_iff.mpr (fun z => h1 (Or.inl z))) (Nat.not_le.mp (fun z => h1 (Or.inr z))) (fun z => h2 (Or.inl z)) (fun z => h2 (Or.inr z))) (cwV 1 hta (gV m_147 m_148 m_149 m_1 m_150) rfl rfl rfl (by decide +kernel) ⟨Nat.le_of_ble_eq_true rfl, Nat.le_of_ble_eq_true rfl⟩) (wr_V nW_ok hX (hK.sub [1, 2, 3, 4, 5, 6, 7, 8, 9, 10] rfl) (hP.sub [1, 2, 3, 4, 5, 6, 7, 8, 9, 10, 11, 12] rfl) (hD.sub [1, 2, 3, 4, 5, 6, 7, 8, 9, 10, 11, 12] (by decide) rfl) (ci := 1) (q0 := 0) rfl rfl) rfl rfl hl.1 rfl (lv_room (Nat.le_of_ble_eq_true rfl)) dL_column_4 ⟨Nat.zero_le _, Nat.zero_le _⟩) hP hD hS hA rfl (fun H locs hP hD hS => ?_)
      have hP : va_P (dC, dI) vwCl (OW oa ko o ++ (PW ad k P ++ (FW ad k F ++ TW ad k (ts (vp_updL T.C (0 * 13 + (T.w + 1)) v) T.I (upd T.O (T.w + 1) (nI T.w)) T.G T.S (T.w + 1) T.h T.d)))) H := hP
      have hD : va_D A (OW oa ko o ++ (PW ad k P ++ (FW ad k F ++ TW ad k (ts (vp_updL T.C (0 * 13 + (T.w + 1)) v) T.I (upd T.O (T.w + 1) (nI T.w)) T.G T.S (T.w + 1) T.h T.d)))) := hD
      refine W.eq (g2 := F0 m 7 ls [.int (nI T.w), .int (nI 0), .ref oa]) rfl ?_
      refine lv_i2l (v := (nI T.w).toInt64) hx hb dL_column_7 rfl ?_
      refine na_last hx hb hK hP hD hS 0 0 rfl rfl (i := 0) (x := (nI T.w).toInt64) (by omega) (by decide) dL_column_8 (fun H locs hP hD hS => ?_)
      have hP : va_P (dC, dI) vwCl (OW oa ko (vp_updL o 0 ((nI T.w).toInt64)) ++ (PW ad k P ++ (FW ad k F ++ TW ad k (ts (vp_updL T.C (0 * 13 + (T.w + 1)) v) T.I (upd T.O (T.w + 1) (nI T.w)) T.G T.S (T.w + 1) T.h T.d)))) H := hP
      have hD : va_D A (OW oa ko (vp_updL o 0 ((nI T.w).toInt64)) ++ (PW ad k P ++ (FW ad k F ++ TW ad k (ts (vp_updL T.C (0 * 13 + (T.w + 1)) v) T.I (upd T.O (T.w + 1) (nI T.w)) T.G T.S (T.w + 1) T.h T.d)))) := hD
      refine lv_goto (tgt := 20) hx hb dL_column_9 (by decide) ?_
      refine lv_iconst (v := nI 0) hx hb dL_column_20 (by decide) ?_
      refine W.widen (k := 1) (n := 6) (Nat.zero_le _) (Nat.zero_le _) ?_
      exact vx_ret (W.iret (v := nI 0) hx hb hr (fun t ht hW => ⟨by rw [hk9], by rw [ht, eO, eT]; exact hP, hS.F ht⟩) hS.2.2 dL_column_21)

set_option maxHeartbeats 4000000 in
set_option maxRecDepth 100000 in
theorem h_L_row (l : Launch) (hlt : l.stackTraces = false) (dC : Nat → ClassId) (dI : Nat → Nat → Nat) (ad : Nat → Nat) (k : Nat → ClassId) (oa : Nat) (ko : ClassId) (o : Nat → Int64) (P : PS) (F : Nat → Int32) (T : TS) (sz : Nat) (kd wk : Int32) (b : Int64) (hw : T.w ≤ 12) (hh : T.h ≤ 24) (hro : P.rows ≤ 12) (hri : P.rin ≤ P.rows) : vx_Met l yL_row wL_row ({ frames := 8, cells := 1, slots := 6, locals := 150 }) (hPc [.ref (ad 7), .int kd, .int wk, .long b, .ref oa] sz (dC, dI) vwCl (OW oa ko o ++ (PW ad k P ++ (FW ad k F ++ TW ad k T))) (OQ ko ++ (PK k ++ (FK k ++ TK k)))) (wQ (some (.int (nI (kRo P kd wk b)))) (dC, dI) vwCl (OW oa ko (oU (kRo P kd wk b) o ((nI P.rows).toInt64)) ++ (PW ad k (ps ((pRo P kd wk b).K) ((pRo P kd wk b).V) ((pRo P kd wk b).B) ((pRo P kd wk b).L) ((pRo P kd wk b).wk) ((pRo P kd wk b).rows) ((pRo P kd wk b).rin) ((pRo P kd wk b).stp) ((pRo P kd wk b).run) ((pRo P kd wk b).lat)) ++ (FW ad k F ++ TW ad k T))) (va_A (OW oa ko o ++ (PW ad k P ++ (FW ad k F ++ TW ad k T))) sz)) (fun _ _ _ => False) 1 6 (va_A (OW oa ko o ++ (PW ad k P ++ (FW ad k F ++ TW ad k T))) sz) := by
  refine vx_ofWH (cc := bL_row) (maxL := 7) (ret := (some .int)) (by decide) rfl ?_
  intro p e s m args below meth c s₁ B hml hv
  obtain ⟨rfl, hsz, hP, hK, hD0, hX, hss, hzz⟩ := hv
  have hx := B.exec
  have hb := B.bytes
  have hr := B.returns
  have hts := atoms_spec (ws := wL_row) B.pre
  have hta : ∀ w ∈ AW, w.before _ s = true := fun w h => hts w (List.mem_cons_of_mem _ h)
  have hown : s.vm.findClass RL = some m.cls := findClass_of_methodNamed B.named
  have hlocks := B.notSynchronized
  have htb := vx_table (x := yL_row) B (hts _ List.mem_cons_self)
  subst hsz
  have hD := hD0.self (sz := s.heap.size)
  generalize hAe : va_A (OW oa ko o ++ (PW ad k P ++ (FW ad k F ++ TW ad k T))) s.heap.size = A at hD ⊢
  have hA : ∀ q : Nat, s.heap.size ≤ q → A q := fun q h => by rw [← hAe]; exact Or.inr h
  have hS : va_S A s.heap s.heap [] := va_S.rf
  have hl := lv_entry ([.ref (ad 7), .int kd, .int wk, .long b, .ref oa]) (n := 7) (Nat.le_of_ble_eq_true rfl)
  rw [lg_entry_eq]
  generalize (lg_sl ([.ref (ad 7), .int kd, .int wk, .long b, .ref oa]) ++ List.replicate (7 - (lg_sl ([.ref (ad 7), .int kd, .int wk, .long b, .ref oa])).length) Slot.unset).toArray = ls at hl ⊢
  by_cases h1 : 12 ≤ P.rows
  · have hk9 : kRo P kd wk b = 1 := by rw [kRo, if_pos h1]
    have hl : lv_has ls 7 [(0, .ref (ad 7)), (1, .int kd), (2, .int wk), (3, .long b), (5, .ref oa)] := hl
    have eO : oU (kRo P kd wk b) o ((nI P.rows).toInt64) = o := by rw [oU, if_neg (by rw [hk9]; decide)]
    have eP : pRo P kd wk b = P := by rw [pRo, if_neg (by rw [hk9]; decide)]
    refine lv_aload hx hb dL_row_0 (lv_at hl 4 rfl) ?_
    refine lv_iconst (v := nI 0) hx hb dL_row_2 (by decide) ?_
    refine lv_aload_n hx hb dL_row_3 rfl (lv_at hl 0 rfl) ?_
    refine lv_iload_n hx hb dL_row_4 rfl (lv_at hl 1 rfl) ?_
    refine lv_iload_n hx hb dL_row_5 rfl (lv_at hl 2 rfl) ?_
    refine lv_lload_n hx hb dL_row_6 rfl (lv_at hl 3 rfl) ?_
    refine tx_call (vx_runV (As := [.int kd, .int wk, .long b]) (rest := [.int (nI 0), .ref oa]) ⟨hx, hb, hml, hown, hta⟩ (t_P_row_S l hlt dC dI ad k P F T kd wk b hro h1) (cwV 3 hta (gV m_247 m_248 m_249 m_1 m_250) rfl rfl rfl (by decide +kernel) ⟨Nat.le_of_ble_eq_true rfl, Nat.le_of_ble_eq_true rfl⟩) (td_V hX hss hzz (hK.sub [1, 2, 3, 4, 5, 6, 7, 8, 9, 10] rfl) (hP.sub [1, 2, 3, 4, 5, 6, 7, 8, 9, 10, 11, 12] rfl) (ci := 1) (q0 := 0) rfl rfl) rfl rfl hl.1 rfl (lv_room (Nat.le_of_ble_eq_true rfl)) dL_row_7 ⟨Nat.le_of_ble_eq_true rfl, Nat.le_of_ble_eq_true rfl⟩) (fun ce q9 H1 k1 k2 k3 k4 k5 => ?_)
    have hP1 := hP_new hP k2
    refine vx_catch (E := eS) (name := eS) (pc := 7) (ls := ls) hown [] { startPc := 0, endPc := 12, handlerPc := 15, catchType := 13 } [{ startPc := 0, endPc := 12, handlerPc := 19, catchType := 15 }] (htb.trans rfl) (fun z hz => nomatch hz) (by decide) (by decide) (hta _ m_145) (va_Nw.use rfl (hss.2.1 (.castable eS eS) (by decide))) k3 k4 k5 ?_
    refine lv_astore (lv' := [(6, .ref q9), (0, .ref (ad 7)), (1, .int kd), (2, .int wk), (3, .long b), (5, .ref oa)]) hx hb dL_row_15 hl (by decide) rfl (fun ls hl => ?_)
    refine lv_iconst (v := nI 1) hx hb dL_row_17 (by decide) ?_
    exact vx_ret (W.iret (v := nI 1) hx hb hr (fun t ht hW => ⟨by rw [hk9], by rw [ht, eO, eP]; exact hP1, by rw [ht]; exact k1, fun q h _ => by rw [ht]; exact k2 q h⟩) (fun q h => nomatch h) dL_row_18)
  · by_cases h2 : kd < 0 ∨ 2 < kd ∨ wk < 0 ∨ ¬ wk < P.wk ∨ b < -1000000 ∨ 1000000 < b
    · have hk9 : kRo P kd wk b = 2 := by rw [kRo, if_neg h1, if_pos h2]
      have hl : lv_has ls 7 [(0, .ref (ad 7)), (1, .int kd), (2, .int wk), (3, .long b), (5, .ref oa)] := hl
      have eO : oU (kRo P kd wk b) o ((nI P.rows).toInt64) = o := by rw [oU, if_neg (by rw [hk9]; decide)]
      have eP : pRo P kd wk b = P := by rw [pRo, if_neg (by rw [hk9]; decide)]
      refine lv_aload hx hb dL_row_0 (lv_at hl 4 rfl) ?_
      refine lv_iconst (v := nI 0) hx hb dL_row_2 (by decide) ?_
      refine lv_aload_n hx hb dL_row_3 rfl (lv_at hl 0 rfl) ?_
      refine lv_iload_n hx hb dL_row_4 rfl (lv_at hl 1 rfl) ?_
      refine lv_iload_n hx hb dL_row_5 rfl (lv_at hl 2 rfl) ?_
      refine lv_lload_n hx hb dL_row_6 rfl (lv_at hl 3 rfl) ?_
      refine tx_call (vx_runV (As := [.int kd, .int wk, .long b]) (rest := [.int (nI 0), .ref oa]) ⟨hx, hb, hml, hown, hta⟩ (t_P_row_A l hlt dC dI ad k P F T kd wk b (Nat.not_le.mp h1) h2) (cwV 3 hta (gV m_247 m_248 m_249 m_1 m_250) rfl rfl rfl (by decide +kernel) ⟨Nat.le_of_ble_eq_true rfl, Nat.le_of_ble_eq_true rfl⟩) (td_V hX hss hzz (hK.sub [1, 2, 3, 4, 5, 6, 7, 8, 9, 10] rfl) (hP.sub [1, 2, 3, 4, 5, 6, 7, 8, 9, 10, 11, 12] rfl) (ci := 1) (q0 := 0) rfl rfl) rfl rfl hl.1 rfl (lv_room (Nat.le_of_ble_eq_true rfl)) dL_row_7 ⟨Nat.le_of_ble_eq_true rfl, Nat.le_of_ble_eq_true rfl⟩) (fun ce q9 H1 k1 k2 k3 k4 k5 => ?_)
      have hP1 := hP_new hP k2
      refine vx_catch (E := eA) (name := eA) (pc := 7) (ls := ls) hown [{ startPc := 0, endPc := 12, handlerPc := 15, catchType := 13 }] { startPc := 0, endPc := 12, handlerPc := 19, catchType := 15 } [] (htb.trans rfl) (fun z hz => by
          simp only [List.mem_cons, List.not_mem_nil, or_false] at hz
          subst hz
          exact Or.inr ⟨by decide, eS, hta _ m_145, hss.2.2 (eA, eS) (by decide)⟩) (by decide) (by decide) (hta _ m_146) (va_Nw.use rfl (hss.2.1 (.castable eA eA) (by decide))) k3 k4 k5 ?_
      refine lv_astore (lv' := [(6, .ref q9), (0, .ref (ad 7)), (1, .int kd), (2, .int wk), (3, .long b), (5, .ref oa)]) hx hb dL_row_19 hl (by decide) rfl (fun ls hl => ?_)
      refine lv_iconst (v := nI 2) hx hb dL_row_21 (by decide) ?_
      exact vx_ret (W.iret (v := nI 2) hx hb hr (fun t ht hW => ⟨by rw [hk9], by rw [ht, eO, eP]; exact hP1, by rw [ht]; exact k1, fun q h _ => by rw [ht]; exact k2 q h⟩) (fun q h => nomatch h) dL_row_22)
    · have hk9 : kRo P kd wk b = 0 := by rw [kRo, if_neg h1, if_neg h2]
      have hl : lv_has ls 7 [(0, .ref (ad 7)), (1, .int kd), (2, .int wk), (3, .long b), (5, .ref oa)] := hl
      have eO : oU (kRo P kd wk b) o ((nI P.rows).toInt64) = vp_updL o 0 ((nI P.rows).toInt64) := by rw [oU, if_pos hk9]
      have eP : pRo P kd wk b = (ps (upd P.K P.rows kd) (upd P.V P.rows wk) (vp_updL P.B P.rows b) P.L P.wk (P.rows + 1) P.rin P.stp P.run P.lat) := by rw [pRo, if_pos hk9]
      refine lv_aload hx hb dL_row_0 (lv_at hl 4 rfl) ?_
      refine lv_iconst (v := nI 0) hx hb dL_row_2 (by decide) ?_
      refine lv_aload_n hx hb dL_row_3 rfl (lv_at hl 0 rfl) ?_
      refine lv_iload_n hx hb dL_row_4 rfl (lv_at hl 1 rfl) ?_
      refine lv_iload_n hx hb dL_row_5 rfl (lv_at hl 2 rfl) ?_
      refine lv_lload_n hx hb dL_row_6 rfl (lv_at hl 3 rfl) ?_
      refine wr_call (X := OW oa ko o) (va_runV (As := [.int kd, .int wk, .long b]) (rest := [.int (nI 0), .ref oa]) ⟨hx, hb, hml, hown, hta⟩ (c_P_row l dC dI ad k P F T s.heap.size kd wk b (Nat.not_le.mp h1) (fun z => h2 (Or.inl z)) (fun z => h2 (Or.inr (Or.inl z))) (fun z => h2 (Or.inr (Or.inr (Or.inl z)))) (Classical.byContradiction (fun z => h2 (Or.inr (Or.inr (Or.inr (Or.inl z)))))) (fun z => h2 (Or.inr (Or.inr (Or.inr (Or.inr (Or.inl z)))))) (fun z => h2 (Or.inr (Or.inr (Or.inr (Or.inr (Or.inr z))))))) (cwV 3 hta (gV m_247 m_248 m_249 m_1 m_250) rfl rfl rfl (by decide +kernel) ⟨Nat.le_of_ble_eq_true rfl, Nat.le_of_ble_eq_true rfl⟩) (wr_V nW_ok hX (hK.sub [1, 2, 3, 4, 5, 6, 7, 8, 9, 10] rfl) (hP.sub [1, 2, 3, 4, 5, 6, 7, 8, 9, 10, 11, 12] rfl) (hD.sub [1, 2, 3, 4, 5, 6, 7, 8, 9, 10, 11, 12] (by decide) rfl) (ci := 1) (q0 := 0) rfl rfl) rfl rfl hl.1 rfl (lv_room (Nat.le_of_ble_eq_true rfl)) dL_row_7 ⟨Nat.zero_le _, Nat.zero_le _⟩) hP hD hS hA rfl (fun H locs hP hD hS => ?_)
      have hP : va_P (dC, dI) vwCl (OW oa ko o ++ (PW ad k (ps (upd P.K P.rows kd) (upd P.V P.rows wk) (vp_updL P.B P.rows b) P.L P.wk (P.rows + 1) P.rin P.stp P.run P.lat) ++ (FW ad k F ++ TW ad k T))) H := hP
      have hD : va_D A (OW oa ko o ++ (PW ad k (ps (upd P.K P.rows kd) (upd P.V P.rows wk) (vp_updL P.B P.rows b) P.L P.wk (P.rows + 1) P.rin P.stp P.run P.lat) ++ (FW ad k F ++ TW ad k T))) := hD
      refine W.eq (g2 := F0 m 10 ls [.int (nI P.rows), .int (nI 0), .ref oa]) rfl ?_
      refine lv_i2l (v := (nI P.rows).toInt64) hx hb dL_row_10 rfl ?_
      refine na_last hx hb hK hP hD hS 0 0 rfl rfl (i := 0) (x := (nI P.rows).toInt64) (by omega) (by decide) dL_row_11 (fun H locs hP hD hS => ?_)
      have hP : va_P (dC, dI) vwCl (OW oa ko (vp_updL o 0 ((nI P.rows).toInt64)) ++ (PW ad k (ps (upd P.K P.rows kd) (upd P.V P.rows wk) (vp_updL P.B P.rows b) P.L P.wk (P.rows + 1) P.rin P.stp P.run P.lat) ++ (FW ad k F ++ TW ad k T))) H := hP
      have hD : va_D A (OW oa ko (vp_updL o 0 ((nI P.rows).toInt64)) ++ (PW ad k (ps (upd P.K P.rows kd) (upd P.V P.rows wk) (vp_updL P.B P.rows b) P.L P.wk (P.rows + 1) P.rin P.stp P.run P.lat) ++ (FW ad k F ++ TW ad k T))) := hD
      refine lv_goto (tgt := 23) hx hb dL_row_12 (by decide) ?_
      refine lv_iconst (v := nI 0) hx hb dL_row_23 (by decide) ?_
      refine W.widen (k := 1) (n := 6) (Nat.zero_le _) (Nat.zero_le _) ?_
      exact vx_ret (W.iret (v := nI 0) hx hb hr (fun t ht hW => ⟨by rw [hk9], by rw [ht, eO, eP]; exact hP, hS.F ht⟩) hS.2.2 dL_row_24)

set_option maxHeartbeats 4000000 in
set_option maxRecDepth 100000 in
theorem h_L_factor (l : Launch) (hlt : l.stackTraces = false) (dC : Nat → ClassId) (dI : Nat → Nat → Nat) (ad : Nat → Nat) (k : Nat → ClassId) (oa : Nat) (ko : ClassId) (o : Nat → Int64) (P : PS) (F : Nat → Int32) (T : TS) (sz : Nat) (x y v : Int32) (hw : T.w ≤ 12) (hh : T.h ≤ 24) (hro : P.rows ≤ 12) (hri : P.rin ≤ P.rows) : vx_Met l yL_factor wL_factor ({ frames := 8, cells := 1, slots := 6, locals := 150 }) (hPc [.ref (ad 7), .int x, .int y, .int v, .ref oa] sz (dC, dI) vwCl (OW oa ko o ++ (PW ad k P ++ (FW ad k F ++ TW ad k T))) (OQ ko ++ (PK k ++ (FK k ++ TK k)))) (wQ (some (.int (nI (kFa P T x y v)))) (dC, dI) vwCl (OW oa ko (oU (kFa P T x y v) o ((F (iFa P T x y)).toInt64)) ++ (PW ad k P ++ (FW ad k (fFa P F T x y v) ++ TW ad k T))) (va_A (OW oa ko o ++ (PW ad k P ++ (FW ad k F ++ TW ad k T))) sz)) (fun _ _ _ => False) 1 6 (va_A (OW oa ko o ++ (PW ad k P ++ (FW ad k F ++ TW ad k T))) sz) := by
  refine vx_ofWH (cc := bL_factor) (maxL := 6) (ret := (some .int)) (by decide) rfl ?_
  intro p e s m args below meth c s₁ B hml hv
  obtain ⟨rfl, hsz, hP, hK, hD0, hX, hss, hzz⟩ := hv
  have hx := B.exec
  have hb := B.bytes
  have hr := B.returns
  have hts := atoms_spec (ws := wL_factor) B.pre
  have hta : ∀ w ∈ AW, w.before _ s = true := fun w h => hts w (List.mem_cons_of_mem _ h)
  have hown : s.vm.findClass RL = some m.cls := findClass_of_methodNamed B.named
  have hlocks := B.notSynchronized
  have htb := vx_table (x := yL_factor) B (hts _ List.mem_cons_self)
  subst hsz
  have hD := hD0.self (sz := s.heap.size)
  generalize hAe : va_A (OW oa ko o ++ (PW ad k P ++ (FW ad k F ++ TW ad k T))) s.heap.size = A at hD ⊢
  have hA : ∀ q : Nat, s.heap.size ≤ q → A q := fun q h => by rw [← hAe]; exact Or.inr h
  have hS : va_S A s.heap s.heap [] := va_S.rf
  have hl := lv_entry ([.ref (ad 7), .int x, .int y, .int v, .ref oa]) (n := 6) (Nat.le_of_ble_eq_true rfl)
  rw [lg_entry_eq]
  generalize (lg_sl ([.ref (ad 7), .int x, .int y, .int v, .ref oa]) ++ List.replicate (6 - (lg_sl ([.ref (ad 7), .int x, .int y, .int v, .ref oa])).length) Slot.unset).toArray = ls at hl ⊢
  obtain ⟨ohq1, hq1⟩ : ∃ o9, idx P.rows x = o9 := ⟨_, rfl⟩
  cases ohq1 with
  | none =>
    have hk9 : kFa P T x y v = 1 := by simp only [kFa, hq1]
    have hl : lv_has ls 6 [(0, .ref (ad 7)), (1, .int x), (2, .int y), (3, .int v), (4, .ref oa)] := hl
    have eO : oU (kFa P T x y v) o (F (iFa P T x y)).toInt64 = o := by rw [oU, if_neg (by rw [hk9]; decide)]
    have eF : fFa P F T x y v = F := by rw [fFa, if_neg (by rw [hk9]; decide)]
    refine lv_aload hx hb dL_factor_0 (lv_at hl 4 rfl) ?_
    refine lv_iconst (v := nI 0) hx hb dL_factor_2 (by decide) ?_
    refine lv_aload_n hx hb dL_factor_3 rfl (lv_at hl 0 rfl) ?_
    refine lv_iload_n hx hb dL_factor_4 rfl (lv_at hl 1 rfl) ?_
    refine lv_iload_n hx hb dL_factor_5 rfl (lv_at hl 2 rfl) ?_
    refine lv_iload_n hx hb dL_factor_6 rfl (lv_at hl 3 rfl) ?_
    refine tx_call (vx_runV (As := [.int x, .int y, .int v]) (rest := [.int (nI 0), .ref oa]) ⟨hx, hb, hml, hown, hta⟩ (t_P_factor_I1 l hlt dC dI ad k P F T x y v hro hq1) (cwV 3 hta (gV m_272 m_273 m_274 m_1 m_275) rfl rfl rfl (by decide +kernel) ⟨Nat.le_of_ble_eq_true rfl, Nat.le_of_ble_eq_true rfl⟩) (td_V hX hss hzz (hK.sub [1, 2, 3, 4, 5, 6, 7, 8, 9, 10] rfl) (hP.sub [1, 2, 3, 4, 5, 6, 7, 8, 9, 10, 11, 12] rfl) (ci := 1) (q0 := 0) rfl rfl) rfl rfl hl.1 rfl (lv_room (Nat.le_of_ble_eq_true rfl)) dL_factor_7 ⟨Nat.le_of_ble_eq_true rfl, Nat.le_of_ble_eq_true rfl⟩) (fun ce q9 H1 k1 k2 k3 k4 k5 => ?_)
    have hP1 := hP_new hP k2
    refine vx_catch (E := eI) (name := eI) (pc := 7) (ls := ls) hown [] { startPc := 0, endPc := 12, handlerPc := 15, catchType := 25 } [{ startPc := 0, endPc := 12, handlerPc := 19, catchType := 13 }, { startPc := 0, endPc := 12, handlerPc := 23, catchType := 15 }] (htb.trans rfl) (fun z hz => nomatch hz) (by decide) (by decide) (hta _ m_271) (va_Nw.use rfl (hss.2.1 (.castable eI eI) (by decide))) k3 k4 k5 ?_
    refine lv_astore (lv' := [(5, .ref q9), (0, .ref (ad 7)), (1, .int x), (2, .int y), (3, .int v), (4, .ref oa)]) hx hb dL_factor_15 hl (by decide) rfl (fun ls hl => ?_)
    refine lv_iconst (v := nI 1) hx hb dL_factor_17 (by decide) ?_
    exact vx_ret (W.iret (v := nI 1) hx hb hr (fun t ht hW => ⟨by rw [hk9], by rw [ht, eO, eF]; exact hP1, by rw [ht]; exact k1, fun q h _ => by rw [ht]; exact k2 q h⟩) (fun q h => nomatch h) dL_factor_18)
  | some r =>
    obtain ⟨hr9, rfl⟩ := idx_some hq1
    obtain ⟨ohq2, hq2⟩ : ∃ o9, idx T.w y = o9 := ⟨_, rfl⟩
    cases ohq2 with
    | none =>
      have hk9 : kFa P T (nI r) y v = 1 := by simp only [kFa, hq1, hq2]
      have hl : lv_has ls 6 [(0, .ref (ad 7)), (1, .int (nI r)), (2, .int y), (3, .int v), (4, .ref oa)] := hl
      have eO : oU (kFa P T (nI r) y v) o (F (iFa P T (nI r) y)).toInt64 = o := by rw [oU, if_neg (by rw [hk9]; decide)]
      have eF : fFa P F T (nI r) y v = F := by rw [fFa, if_neg (by rw [hk9]; decide)]
      refine lv_aload hx hb dL_factor_0 (lv_at hl 4 rfl) ?_
      refine lv_iconst (v := nI 0) hx hb dL_factor_2 (by decide) ?_
      refine lv_aload_n hx hb dL_factor_3 rfl (lv_at hl 0 rfl) ?_
      refine lv_iload_n hx hb dL_factor_4 rfl (lv_at hl 1 rfl) ?_
      refine lv_iload_n hx hb dL_factor_5 rfl (lv_at hl 2 rfl) ?_
      refine lv_iload_n hx hb dL_factor_6 rfl (lv_at hl 3 rfl) ?_
      refine tx_call (vx_runV (As := [.int (nI r), .int y, .int v]) (rest := [.int (nI 0), .ref oa]) ⟨hx, hb, hml, hown, hta⟩ (t_P_factor_I2 l hlt dC dI ad k P F T r y v hro hr9 hw hq2) (cwV 3 hta (gV m_272 m_273 m_274 m_1 m_275) rfl rfl rfl (by decide +kernel) ⟨Nat.le_of_ble_eq_true rfl, Nat.le_of_ble_eq_true rfl⟩) (td_V hX hss hzz (hK.sub [1, 2, 3, 4, 5, 6, 7, 8, 9, 10] rfl) (hP.sub [1, 2, 3, 4, 5, 6, 7, 8, 9, 10, 11, 12] rfl) (ci := 1) (q0 := 0) rfl rfl) rfl rfl hl.1 rfl (lv_room (Nat.le_of_ble_eq_true rfl)) dL_factor_7 ⟨Nat.le_of_ble_eq_true rfl, Nat.le_of_ble_eq_true rfl⟩) (fun ce q9 H1 k1 k2 k3 k4 k5 => ?_)
      have hP1 := hP_new hP k2
      refine vx_catch (E := eI) (name := eI) (pc := 7) (ls := ls) hown [] { startPc := 0, endPc := 12, handlerPc := 15, catchType := 25 } [{ startPc := 0, endPc := 12, handlerPc := 19, catchType := 13 }, { startPc := 0, endPc := 12, handlerPc := 23, catchType := 15 }] (htb.trans rfl) (fun z hz => nomatch hz) (by decide) (by decide) (hta _ m_271) (va_Nw.use rfl (hss.2.1 (.castable eI eI) (by decide))) k3 k4 k5 ?_
      refine lv_astore (lv' := [(5, .ref q9), (0, .ref (ad 7)), (1, .int (nI r)), (2, .int y), (3, .int v), (4, .ref oa)]) hx hb dL_factor_15 hl (by decide) rfl (fun ls hl => ?_)
      refine lv_iconst (v := nI 1) hx hb dL_factor_17 (by decide) ?_
      exact vx_ret (W.iret (v := nI 1) hx hb hr (fun t ht hW => ⟨by rw [hk9], by rw [ht, eO, eF]; exact hP1, by rw [ht]; exact k1, fun q h _ => by rw [ht]; exact k2 q h⟩) (fun q h => nomatch h) dL_factor_18)
    | some j =>
      obtain ⟨hj9, rfl⟩ := idx_some hq2
      by_cases h1 : r < P.rin
      · have hk9 : kFa P T (nI r) (nI j) v = 2 := by simp only [kFa, hq1, hq2]; rw [if_pos h1]
        have hl : lv_has ls 6 [(0, .ref (ad 7)), (1, .int (nI r)), (2, .int (nI j)), (3, .int v), (4, .ref oa)] := hl
        have eO : oU (kFa P T (nI r) (nI j) v) o (F (iFa P T (nI r) (nI j))).toInt64 = o := by rw [oU, if_neg (by rw [hk9]; decide)]
        have eF : fFa P F T (nI r) (nI j) v = F := by rw [fFa, if_neg (by rw [hk9]; decide)]
        refine lv_aload hx hb dL_factor_0 (lv_at hl 4 rfl) ?_
        refine lv_iconst (v := nI 0) hx hb dL_factor_2 (by decide) ?_
        refine lv_aload_n hx hb dL_factor_3 rfl (lv_at hl 0 rfl) ?_
        refine lv_iload_n hx hb dL_factor_4 rfl (lv_at hl 1 rfl) ?_
        refine lv_iload_n hx hb dL_factor_5 rfl (lv_at hl 2 rfl) ?_
        refine lv_iload_n hx hb dL_factor_6 rfl (lv_at hl 3 rfl) ?_
        refine tx_call (vx_runV (As := [.int (nI r), .int (nI j), .int v]) (rest := [.int (nI 0), .ref oa]) ⟨hx, hb, hml, hown, hta⟩ (t_P_factor_S l hlt dC dI ad k P F T r j v hro hr9 hw hj9 (by omega) h1) (cwV 3 hta (gV m_272 m_273 m_274 m_1 m_275) rfl rfl rfl (by decide +kernel) ⟨Nat.le_of_ble_eq_true rfl, Nat.le_of_ble_eq_true rfl⟩) (td_V hX hss hzz (hK.sub [1, 2, 3, 4, 5, 6, 7, 8, 9, 10] rfl) (hP.sub [1, 2, 3, 4, 5, 6, 7, 8, 9, 10, 11, 12] rfl) (ci := 1) (q0 := 0) rfl rfl) rfl rfl hl.1 rfl (lv_room (Nat.le_of_ble_eq_true rfl)) dL_factor_7 ⟨Nat.le_of_ble_eq_true rfl, Nat.le_of_ble_eq_true rfl⟩) (fun ce q9 H1 k1 k2 k3 k4 k5 => ?_)
        have hP1 := hP_new hP k2
        refine vx_catch (E := eS) (name := eS) (pc := 7) (ls := ls) hown [{ startPc := 0, endPc := 12, handlerPc := 15, catchType := 25 }] { startPc := 0, endPc := 12, handlerPc := 19, catchType := 13 } [{ startPc := 0, endPc := 12, handlerPc := 23, catchType := 15 }] (htb.trans rfl) (fun z hz => by
            simp only [List.mem_cons, List.not_mem_nil, or_false] at hz
            subst hz
            exact Or.inr ⟨by decide, eI, hta _ m_271, hss.2.2 (eS, eI) (by decide)⟩) (by decide) (by decide) (hta _ m_145) (va_Nw.use rfl (hss.2.1 (.castable eS eS) (by decide))) k3 k4 k5 ?_
        refine lv_astore (lv' := [(5, .ref q9), (0, .ref (ad 7)), (1, .int (nI r)), (2, .int (nI j)), (3, .int v), (4, .ref oa)]) hx hb dL_factor_19 hl (by decide) rfl (fun ls hl => ?_)
        refine lv_iconst (v := nI 2) hx hb dL_factor_21 (by decide) ?_
        exact vx_ret (W.iret (v := nI 2) hx hb hr (fun t ht hW => ⟨by rw [hk9], by rw [ht, eO, eF]; exact hP1, by rw [ht]; exact k1, fun q h _ => by rw [ht]; exact k2 q h⟩) (fun q h => nomatch h) dL_factor_22)
      · by_cases h2 : v < -1000 ∨ 1000 < v
        · have hk9 : kFa P T (nI r) (nI j) v = 3 := by simp only [kFa, hq1, hq2]; rw [if_neg h1, if_pos h2]
          have hl : lv_has ls 6 [(0, .ref (ad 7)), (1, .int (nI r)), (2, .int (nI j)), (3, .int v), (4, .ref oa)] := hl
          have eO : oU (kFa P T (nI r) (nI j) v) o (F (iFa P T (nI r) (nI j))).toInt64 = o := by rw [oU, if_neg (by rw [hk9]; decide)]
          have eF : fFa P F T (nI r) (nI j) v = F := by rw [fFa, if_neg (by rw [hk9]; decide)]
          refine lv_aload hx hb dL_factor_0 (lv_at hl 4 rfl) ?_
          refine lv_iconst (v := nI 0) hx hb dL_factor_2 (by decide) ?_
          refine lv_aload_n hx hb dL_factor_3 rfl (lv_at hl 0 rfl) ?_
          refine lv_iload_n hx hb dL_factor_4 rfl (lv_at hl 1 rfl) ?_
          refine lv_iload_n hx hb dL_factor_5 rfl (lv_at hl 2 rfl) ?_
          refine lv_iload_n hx hb dL_factor_6 rfl (lv_at hl 3 rfl) ?_
          refine tx_call (vx_runV (As := [.int (nI r), .int (nI j), .int v]) (rest := [.int (nI 0), .ref oa]) ⟨hx, hb, hml, hown, hta⟩ (t_P_factor_A l hlt dC dI ad k P F T r j v hro hr9 hw hj9 (Nat.not_lt.mp h1) h2) (cwV 3 hta (gV m_272 m_273 m_274 m_1 m_275) rfl rfl rfl (by decide +kernel) ⟨Nat.le_of_ble_eq_true rfl, Nat.le_of_ble_eq_true rfl⟩) (td_V hX hss hzz (hK.sub [1, 2, 3, 4, 5, 6, 7, 8, 9, 10] rfl) (hP.sub [1, 2, 3, 4, 5, 6, 7, 8, 9, 10, 11, 12] rfl) (ci := 1) (q0 := 0) rfl rfl) rfl rfl hl.1 rfl (lv_room (Nat.le_of_ble_eq_true rfl)) dL_factor_7 ⟨Nat.le_of_ble_eq_true rfl, Nat.le_of_ble_eq_true rfl⟩) (fun ce q9 H1 k1 k2 k3 k4 k5 => ?_)
          have hP1 := hP_new hP k2
          refine vx_catch (E := eA) (name := eA) (pc := 7) (ls := ls) hown [{ startPc := 0, endPc := 12, handlerPc := 15, catchType := 25 }, { startPc := 0, endPc := 12, handlerPc := 19, catchType := 13 }] { startPc := 0, endPc := 12, handlerPc := 23, catchType := 15 } [] (htb.trans rfl) (fun z hz => by
              simp only [List.mem_cons, List.not_mem_nil, or_false] at hz
              rcases hz with rfl | rfl
              · exact Or.inr ⟨by decide, eI, hta _ m_271, hss.2.2 (eA, eI) (by decide)⟩
              · exact Or.inr ⟨by decide, eS, hta _ m_145, hss.2.2 (eA, eS) (by decide)⟩) (by decide) (by decide) (hta _ m_146) (va_Nw.use rfl (hss.2.1 (.castable eA eA) (by decide))) k3 k4 k5 ?_
          refine lv_astore (lv' := [(5, .ref q9), (0, .ref (ad 7)), (1, .int (nI r)), (2, .int (nI j)), (3, .int v), (4, .ref oa)]) hx hb dL_factor_23 hl (by decide) rfl (fun ls hl => ?_)
          refine lv_iconst (v := nI 3) hx hb dL_factor_25 (by decide) ?_
          exact vx_ret (W.iret (v := nI 3) hx hb hr (fun t ht hW => ⟨by rw [hk9], by rw [ht, eO, eF]; exact hP1, by rw [ht]; exact k1, fun q h _ => by rw [ht]; exact k2 q h⟩) (fun q h => nomatch h) dL_factor_26)
        · have hk9 : kFa P T (nI r) (nI j) v = 0 := by simp only [kFa, hq1, hq2]; rw [if_neg h1, if_neg h2]
          have hl : lv_has ls 6 [(0, .ref (ad 7)), (1, .int (nI r)), (2, .int (nI j)), (3, .int v), (4, .ref oa)] := hl
          have eI9 : iFa P T (nI r) (nI j) = r * 12 + j := by simp only [iFa, hq1, hq2]
          have eO : oU (kFa P T (nI r) (nI j) v) o (F (iFa P T (nI r) (nI j))).toInt64 = vp_updL o 0 (F (r * 12 + j)).toInt64 := by rw [oU, if_pos hk9]; rw [eI9]
          have eF : fFa P F T (nI r) (nI j) v = upd F (r * 12 + j) v := by rw [fFa, if_pos hk9, eI9]
          refine lv_aload hx hb dL_factor_0 (lv_at hl 4 rfl) ?_
          refine lv_iconst (v := nI 0) hx hb dL_factor_2 (by decide) ?_
          refine lv_aload_n hx hb dL_factor_3 rfl (lv_at hl 0 rfl) ?_
          refine lv_iload_n hx hb dL_factor_4 rfl (lv_at hl 1 rfl) ?_
          refine lv_iload_n hx hb dL_factor_5 rfl (lv_at hl 2 rfl) ?_
          refine lv_iload_n hx hb dL_factor_6 rfl (lv_at hl 3 rfl) ?_
          refine wr_call (X := OW oa ko o) (va_runV (As := [.int (nI r), .int (nI j), .int v]) (rest := [.int (nI 0), .ref oa]) ⟨hx, hb, hml, hown, hta⟩ (c_P_factor l dC dI ad k P F T s.heap.size r j v hro hr9 hw hj9 (Nat.not_lt.mp h1) (fun z => h2 (Or.inl z)) (fun z => h2 (Or.inr z))) (cwV 3 hta (gV m_272 m_273 m_274 m_1 m_275) rfl rfl rfl (by decide +kernel) ⟨Nat.le_of_ble_eq_true rfl, Nat.le_of_ble_eq_true rfl⟩) (wr_V nW_ok hX (hK.sub [1, 2, 3, 4, 5, 6, 7, 8, 9, 10] rfl) (hP.sub [1, 2, 3, 4, 5, 6, 7, 8, 9, 10, 11, 12] rfl) (hD.sub [1, 2, 3, 4, 5, 6, 7, 8, 9, 10, 11, 12] (by decide) rfl) (ci := 1) (q0 := 0) rfl rfl) rfl rfl hl.1 rfl (lv_room (Nat.le_of_ble_eq_true rfl)) dL_factor_7 ⟨Nat.zero_le _, Nat.zero_le _⟩) hP hD hS hA rfl (fun H locs hP hD hS => ?_)
          have hP : va_P (dC, dI) vwCl (OW oa ko o ++ (PW ad k P ++ (FW ad k (upd F (r * 12 + j) v) ++ TW ad k T))) H := hP
          have hD : va_D A (OW oa ko o ++ (PW ad k P ++ (FW ad k (upd F (r * 12 + j) v) ++ TW ad k T))) := hD
          refine W.eq (g2 := F0 m 10 ls [.int (F (r * 12 + j)), .int (nI 0), .ref oa]) rfl ?_
          refine lv_i2l (v := (F (r * 12 + j)).toInt64) hx hb dL_factor_10 rfl ?_
          refine na_last hx hb hK hP hD hS 0 0 rfl rfl (i := 0) (x := (F (r * 12 + j)).toInt64) (by omega) (by decide) dL_factor_11 (fun H locs hP hD hS => ?_)
          have hP : va_P (dC, dI) vwCl (OW oa ko (vp_updL o 0 ((F (r * 12 + j)).toInt64)) ++ (PW ad k P ++ (FW ad k (upd F (r * 12 + j) v) ++ TW ad k T))) H := hP
          have hD : va_D A (OW oa ko (vp_updL o 0 ((F (r * 12 + j)).toInt64)) ++ (PW ad k P ++ (FW ad k (upd F (r * 12 + j) v) ++ TW ad k T))) := hD
          refine lv_goto (tgt := 27) hx hb dL_factor_12 (by decide) ?_
          refine lv_iconst (v := nI 0) hx hb dL_factor_27 (by decide) ?_
          refine W.widen (k := 1) (n := 6) (Nat.zero_le _) (Nat.zero_le _) ?_
          exact vx_ret (W.iret (v := nI 0) hx hb hr (fun t ht hW => ⟨by rw [hk9], by rw [ht, eO, eF]; exact hP, hS.F ht⟩) hS.2.2 dL_factor_28)

set_option maxHeartbeats 4000000 in
set_option maxRecDepth 100000 in
theorem h_L_cut (l : Launch) (hlt : l.stackTraces = false) (dC : Nat → ClassId) (dI : Nat → Nat → Nat) (ad : Nat → Nat) (k : Nat → ClassId) (oa : Nat) (ko : ClassId) (o : Nat → Int64) (P : PS) (F : Nat → Int32) (T : TS) (sz : Nat) (x y : Int32) (hw : T.w ≤ 12) (hh : T.h ≤ 24) (hro : P.rows ≤ 12) (hri : P.rin ≤ P.rows) : vx_Met l yL_cut wL_cut ({ frames := 8, cells := 1, slots := 6, locals := 150 }) (hPc [.ref (ad 7), .int x, .int y, .ref oa] sz (dC, dI) vwCl (OW oa ko o ++ (PW ad k P ++ (FW ad k F ++ TW ad k T))) (OQ ko ++ (PK k ++ (FK k ++ TK k)))) (wQ (some (.int (nI (kCu P T x y)))) (dC, dI) vwCl (OW oa ko (oU (kCu P T x y) o ((nI P.rows).toInt64)) ++ (PW ad k (ps ((pCu P T x y).K) ((pCu P T x y).V) ((pCu P T x y).B) ((pCu P T x y).L) ((pCu P T x y).wk) ((pCu P T x y).rows) ((pCu P T x y).rin) ((pCu P T x y).stp) ((pCu P T x y).run) ((pCu P T x y).lat)) ++ (FW ad k (fCu P F T x y) ++ TW ad k T))) (va_A (OW oa ko o ++ (PW ad k P ++ (FW ad k F ++ TW ad k T))) sz)) (fun _ _ _ => False) 1 6 (va_A (OW oa ko o ++ (PW ad k P ++ (FW ad k F ++ TW ad k T))) sz) := by
  refine vx_ofWH (cc := bL_cut) (maxL := 5) (ret := (some .int)) (by decide) rfl ?_
  intro p e s m args below meth c s₁ B hml hv
  obtain ⟨rfl, hsz, hP, hK, hD0, hX, hss, hzz⟩ := hv
  have hx := B.exec
  have hb := B.bytes
  have hr := B.returns
  have hts := atoms_spec (ws := wL_cut) B.pre
  have hta : ∀ w ∈ AW, w.before _ s = true := fun w h => hts w (List.mem_cons_of_mem _ h)
  have hown : s.vm.findClass RL = some m.cls := findClass_of_methodNamed B.named
  have hlocks := B.notSynchronized
  have htb := vx_table (x := yL_cut) B (hts _ List.mem_cons_self)
  subst hsz
  have hD := hD0.self (sz := s.heap.size)
  generalize hAe : va_A (OW oa ko o ++ (PW ad k P ++ (FW ad k F ++ TW ad k T))) s.heap.size = A at hD ⊢
  have hA : ∀ q : Nat, s.heap.size ≤ q → A q := fun q h => by rw [← hAe]; exact Or.inr h
  have hS : va_S A s.heap s.heap [] := va_S.rf
  have hl := lv_entry ([.ref (ad 7), .int x, .int y, .ref oa]) (n := 5) (Nat.le_of_ble_eq_true rfl)
  rw [lg_entry_eq]
  generalize (lg_sl ([.ref (ad 7), .int x, .int y, .ref oa]) ++ List.replicate (5 - (lg_sl ([.ref (ad 7), .int x, .int y, .ref oa])).length) Slot.unset).toArray = ls at hl ⊢
  obtain ⟨ohq1, hq1⟩ : ∃ o9, idx T.w x = o9 := ⟨_, rfl⟩
  cases ohq1 with
  | none =>
    have hk9 : kCu P T x y = 1 := by simp only [kCu, hq1]
    have hl : lv_has ls 5 [(0, .ref (ad 7)), (1, .int x), (2, .int y), (3, .ref oa)] := hl
    have eO : oU (kCu P T x y) o ((nI P.rows).toInt64) = o := by rw [oU, if_neg (by rw [hk9]; decide)]
    have eP : pCu P T x y = P := by rw [pCu, if_neg (by rw [hk9]; decide)]
    have eF : fCu P F T x y = F := by rw [fCu, if_neg (by rw [hk9]; decide)]
    refine lv_aload_n hx hb dL_cut_0 rfl (lv_at hl 3 rfl) ?_
    refine lv_iconst (v := nI 0) hx hb dL_cut_1 (by decide) ?_
    refine lv_aload_n hx hb dL_cut_2 rfl (lv_at hl 0 rfl) ?_
    refine lv_iload_n hx hb dL_cut_3 rfl (lv_at hl 1 rfl) ?_
    refine lv_iload_n hx hb dL_cut_4 rfl (lv_at hl 2 rfl) ?_
    refine tx_call (vx_runV (As := [.int x, .int y]) (rest := [.int (nI 0), .ref oa]) ⟨hx, hb, hml, hown, hta⟩ (t_P_cut_I1 l hlt dC dI ad k P F T x y hw hq1) (cwV 2 hta (gV m_306 m_307 m_308 m_1 m_309) rfl rfl rfl (by decide +kernel) ⟨Nat.le_of_ble_eq_true rfl, Nat.le_of_ble_eq_true rfl⟩) (td_V hX hss hzz (hK.sub [1, 2, 3, 4, 5, 6, 7, 8, 9, 10] rfl) (hP.sub [1, 2, 3, 4, 5, 6, 7, 8, 9, 10, 11, 12] rfl) (ci := 1) (q0 := 0) rfl rfl) rfl rfl hl.1 rfl (lv_room (Nat.le_of_ble_eq_true rfl)) dL_cut_5 ⟨Nat.le_of_ble_eq_true rfl, Nat.le_of_ble_eq_true rfl⟩) (fun ce q9 H1 k1 k2 k3 k4 k5 => ?_)
    have hP1 := hP_new hP k2
    refine vx_catch (E := eI) (name := eI) (pc := 5) (ls := ls) hown [] { startPc := 0, endPc := 10, handlerPc := 13, catchType := 25 } [{ startPc := 0, endPc := 10, handlerPc := 17, catchType := 13 }, { startPc := 0, endPc := 10, handlerPc := 21, catchType := 15 }] (htb.trans rfl) (fun z hz => nomatch hz) (by decide) (by decide) (hta _ m_271) (va_Nw.use rfl (hss.2.1 (.castable eI eI) (by decide))) k3 k4 k5 ?_
    refine lv_astore (lv' := [(4, .ref q9), (0, .ref (ad 7)), (1, .int x), (2, .int y), (3, .ref oa)]) hx hb dL_cut_13 hl (by decide) rfl (fun ls hl => ?_)
    refine lv_iconst (v := nI 1) hx hb dL_cut_15 (by decide) ?_
    exact vx_ret (W.iret (v := nI 1) hx hb hr (fun t ht hW => ⟨by rw [hk9], by rw [ht, eO, eP, eF]; exact hP1, by rw [ht]; exact k1, fun q h _ => by rw [ht]; exact k2 q h⟩) (fun q h => nomatch h) dL_cut_16)
  | some i =>
    obtain ⟨hi9, rfl⟩ := idx_some hq1
    obtain ⟨ohq2, hq2⟩ : ∃ o9, idx T.w y = o9 := ⟨_, rfl⟩
    cases ohq2 with
    | none =>
      have hk9 : kCu P T (nI i) y = 1 := by simp only [kCu, hq1, hq2]
      have hl : lv_has ls 5 [(0, .ref (ad 7)), (1, .int (nI i)), (2, .int y), (3, .ref oa)] := hl
      have eO : oU (kCu P T (nI i) y) o ((nI P.rows).toInt64) = o := by rw [oU, if_neg (by rw [hk9]; decide)]
      have eP : pCu P T (nI i) y = P := by rw [pCu, if_neg (by rw [hk9]; decide)]
      have eF : fCu P F T (nI i) y = F := by rw [fCu, if_neg (by rw [hk9]; decide)]
      refine lv_aload_n hx hb dL_cut_0 rfl (lv_at hl 3 rfl) ?_
      refine lv_iconst (v := nI 0) hx hb dL_cut_1 (by decide) ?_
      refine lv_aload_n hx hb dL_cut_2 rfl (lv_at hl 0 rfl) ?_
      refine lv_iload_n hx hb dL_cut_3 rfl (lv_at hl 1 rfl) ?_
      refine lv_iload_n hx hb dL_cut_4 rfl (lv_at hl 2 rfl) ?_
      refine tx_call (vx_runV (As := [.int (nI i), .int y]) (rest := [.int (nI 0), .ref oa]) ⟨hx, hb, hml, hown, hta⟩ (t_P_cut_I2 l hlt dC dI ad k P F T i y hw hi9 hq2) (cwV 2 hta (gV m_306 m_307 m_308 m_1 m_309) rfl rfl rfl (by decide +kernel) ⟨Nat.le_of_ble_eq_true rfl, Nat.le_of_ble_eq_true rfl⟩) (td_V hX hss hzz (hK.sub [1, 2, 3, 4, 5, 6, 7, 8, 9, 10] rfl) (hP.sub [1, 2, 3, 4, 5, 6, 7, 8, 9, 10, 11, 12] rfl) (ci := 1) (q0 := 0) rfl rfl) rfl rfl hl.1 rfl (lv_room (Nat.le_of_ble_eq_true rfl)) dL_cut_5 ⟨Nat.le_of_ble_eq_true rfl, Nat.le_of_ble_eq_true rfl⟩) (fun ce q9 H1 k1 k2 k3 k4 k5 => ?_)
      have hP1 := hP_new hP k2
      refine vx_catch (E := eI) (name := eI) (pc := 5) (ls := ls) hown [] { startPc := 0, endPc := 10, handlerPc := 13, catchType := 25 } [{ startPc := 0, endPc := 10, handlerPc := 17, catchType := 13 }, { startPc := 0, endPc := 10, handlerPc := 21, catchType := 15 }] (htb.trans rfl) (fun z hz => nomatch hz) (by decide) (by decide) (hta _ m_271) (va_Nw.use rfl (hss.2.1 (.castable eI eI) (by decide))) k3 k4 k5 ?_
      refine lv_astore (lv' := [(4, .ref q9), (0, .ref (ad 7)), (1, .int (nI i)), (2, .int y), (3, .ref oa)]) hx hb dL_cut_13 hl (by decide) rfl (fun ls hl => ?_)
      refine lv_iconst (v := nI 1) hx hb dL_cut_15 (by decide) ?_
      exact vx_ret (W.iret (v := nI 1) hx hb hr (fun t ht hW => ⟨by rw [hk9], by rw [ht, eO, eP, eF]; exact hP1, by rw [ht]; exact k1, fun q h _ => by rw [ht]; exact k2 q h⟩) (fun q h => nomatch h) dL_cut_16)
    | some j =>
      obtain ⟨hj9, rfl⟩ := idx_some hq2
      by_cases h1 : 12 ≤ P.rows
      · have hk9 : kCu P T (nI i) (nI j) = 2 := by simp only [kCu, hq1, hq2]; rw [if_pos h1]
        have hl : lv_has ls 5 [(0, .ref (ad 7)), (1, .int (nI i)), (2, .int (nI j)), (3, .ref oa)] := hl
        have eO : oU (kCu P T (nI i) (nI j)) o ((nI P.rows).toInt64) = o := by rw [oU, if_neg (by rw [hk9]; decide)]
        have eP : pCu P T (nI i) (nI j) = P := by rw [pCu, if_neg (by rw [hk9]; decide)]
        have eF : fCu P F T (nI i) (nI j) = F := by rw [fCu, if_neg (by rw [hk9]; decide)]
        refine lv_aload_n hx hb dL_cut_0 rfl (lv_at hl 3 rfl) ?_
        refine lv_iconst (v := nI 0) hx hb dL_cut_1 (by decide) ?_
        refine lv_aload_n hx hb dL_cut_2 rfl (lv_at hl 0 rfl) ?_
        refine lv_iload_n hx hb dL_cut_3 rfl (lv_at hl 1 rfl) ?_
        refine lv_iload_n hx hb dL_cut_4 rfl (lv_at hl 2 rfl) ?_
        refine tx_call (vx_runV (As := [.int (nI i), .int (nI j)]) (rest := [.int (nI 0), .ref oa]) ⟨hx, hb, hml, hown, hta⟩ (t_P_cut_S l hlt dC dI ad k P F T i j hw hi9 hj9 hro h1) (cwV 2 hta (gV m_306 m_307 m_308 m_1 m_309) rfl rfl rfl (by decide +kernel) ⟨Nat.le_of_ble_eq_true rfl, Nat.le_of_ble_eq_true rfl⟩) (td_V hX hss hzz (hK.sub [1, 2, 3, 4, 5, 6, 7, 8, 9, 10] rfl) (hP.sub [1, 2, 3, 4, 5, 6, 7, 8, 9, 10, 11, 12] rfl) (ci := 1) (q0 := 0) rfl rfl) rfl rfl hl.1 rfl (lv_room (Nat.le_of_ble_eq_true rfl)) dL_cut_5 ⟨Nat.le_of_ble_eq_true rfl, Nat.le_of_ble_eq_true rfl⟩) (fun ce q9 H1 k1 k2 k3 k4 k5 => ?_)
        have hP1 := hP_new hP k2
        refine vx_catch (E := eS) (name := eS) (pc := 5) (ls := ls) hown [{ startPc := 0, endPc := 10, handlerPc := 13, catchType := 25 }] { startPc := 0, endPc := 10, handlerPc := 17, catchType := 13 } [{ startPc := 0, endPc := 10, handlerPc := 21, catchType := 15 }] (htb.trans rfl) (fun z hz => by
            simp only [List.mem_cons, List.not_mem_nil, or_false] at hz
            subst hz
            exact Or.inr ⟨by decide, eI, hta _ m_271, hss.2.2 (eS, eI) (by decide)⟩) (by decide) (by decide) (hta _ m_145) (va_Nw.use rfl (hss.2.1 (.castable eS eS) (by decide))) k3 k4 k5 ?_
        refine lv_astore (lv' := [(4, .ref q9), (0, .ref (ad 7)), (1, .int (nI i)), (2, .int (nI j)), (3, .ref oa)]) hx hb dL_cut_17 hl (by decide) rfl (fun ls hl => ?_)
        refine lv_iconst (v := nI 2) hx hb dL_cut_19 (by decide) ?_
        exact vx_ret (W.iret (v := nI 2) hx hb hr (fun t ht hW => ⟨by rw [hk9], by rw [ht, eO, eP, eF]; exact hP1, by rw [ht]; exact k1, fun q h _ => by rw [ht]; exact k2 q h⟩) (fun q h => nomatch h) dL_cut_20)
      · by_cases h2 : i = j
        · have hk9 : kCu P T (nI i) (nI j) = 3 := by simp only [kCu, hq1, hq2]; rw [if_neg h1, if_pos h2]
          have hl : lv_has ls 5 [(0, .ref (ad 7)), (1, .int (nI i)), (2, .int (nI j)), (3, .ref oa)] := hl
          have eO : oU (kCu P T (nI i) (nI j)) o ((nI P.rows).toInt64) = o := by rw [oU, if_neg (by rw [hk9]; decide)]
          have eP : pCu P T (nI i) (nI j) = P := by rw [pCu, if_neg (by rw [hk9]; decide)]
          have eF : fCu P F T (nI i) (nI j) = F := by rw [fCu, if_neg (by rw [hk9]; decide)]
          refine lv_aload_n hx hb dL_cut_0 rfl (lv_at hl 3 rfl) ?_
          refine lv_iconst (v := nI 0) hx hb dL_cut_1 (by decide) ?_
          refine lv_aload_n hx hb dL_cut_2 rfl (lv_at hl 0 rfl) ?_
          refine lv_iload_n hx hb dL_cut_3 rfl (lv_at hl 1 rfl) ?_
          refine lv_iload_n hx hb dL_cut_4 rfl (lv_at hl 2 rfl) ?_
          refine tx_call (vx_runV (As := [.int (nI i), .int (nI j)]) (rest := [.int (nI 0), .ref oa]) ⟨hx, hb, hml, hown, hta⟩ (t_P_cut_A l hlt dC dI ad k P F T i j hw hi9 hj9 (Nat.not_le.mp h1) h2) (cwV 2 hta (gV m_306 m_307 m_308 m_1 m_309) rfl rfl rfl (by decide +kernel) ⟨Nat.le_of_ble_eq_true rfl, Nat.le_of_ble_eq_true rfl⟩) (td_V hX hss hzz (hK.sub [1, 2, 3, 4, 5, 6, 7, 8, 9, 10] rfl) (hP.sub [1, 2, 3, 4, 5, 6, 7, 8, 9, 10, 11, 12] rfl) (ci := 1) (q0 := 0) rfl rfl) rfl rfl hl.1 rfl (lv_room (Nat.le_of_ble_eq_true rfl)) dL_cut_5 ⟨Nat.le_of_ble_eq_true rfl, Nat.le_of_ble_eq_true rfl⟩) (fun ce q9 H1 k1 k2 k3 k4 k5 => ?_)
          have hP1 := hP_new hP k2
          refine vx_catch (E := eA) (name := eA) (pc := 5) (ls := ls) hown [{ startPc := 0, endPc := 10, handlerPc := 13, catchType := 25 }, { startPc := 0, endPc := 10, handlerPc := 17, catchType := 13 }] { startPc := 0, endPc := 10, handlerPc := 21, catchType := 15 } [] (htb.trans rfl) (fun z hz => by
              simp only [List.mem_cons, List.not_mem_nil, or_false] at hz
              rcases hz with rfl | rfl
              · exact Or.inr ⟨by decide, eI, hta _ m_271, hss.2.2 (eA, eI) (by decide)⟩
              · exact Or.inr ⟨by decide, eS, hta _ m_145, hss.2.2 (eA, eS) (by decide)⟩) (by decide) (by decide) (hta _ m_146) (va_Nw.use rfl (hss.2.1 (.castable eA eA) (by decide))) k3 k4 k5 ?_
          refine lv_astore (lv' := [(4, .ref q9), (0, .ref (ad 7)), (1, .int (nI i)), (2, .int (nI j)), (3, .ref oa)]) hx hb dL_cut_21 hl (by decide) rfl (fun ls hl => ?_)
          refine lv_iconst (v := nI 3) hx hb dL_cut_23 (by decide) ?_
          exact vx_ret (W.iret (v := nI 3) hx hb hr (fun t ht hW => ⟨by rw [hk9], by rw [ht, eO, eP, eF]; exact hP1, by rw [ht]; exact k1, fun q h _ => by rw [ht]; exact k2 q h⟩) (fun q h => nomatch h) dL_cut_24)
        · have hk9 : kCu P T (nI i) (nI j) = 0 := by simp only [kCu, hq1, hq2]; rw [if_neg h1, if_neg h2]
          have hl : lv_has ls 5 [(0, .ref (ad 7)), (1, .int (nI i)), (2, .int (nI j)), (3, .ref oa)] := hl
          have eO : oU (kCu P T (nI i) (nI j)) o ((nI P.rows).toInt64) = vp_updL o 0 ((nI P.rows).toInt64) := by rw [oU, if_pos hk9]
          have eP : pCu P T (nI i) (nI j) = (ps (upd P.K P.rows 1) (upd P.V P.rows 0) (vp_updL P.B P.rows 1) P.L P.wk (P.rows + 1) P.rin P.stp P.run P.lat) := by rw [pCu, if_pos hk9]
          have eF : fCu P F T (nI i) (nI j) = upd (upd F (P.rows * 12 + i) 1) (P.rows * 12 + j) 1 := by rw [fCu, if_pos hk9, hq1, hq2]; rfl
          refine lv_aload_n hx hb dL_cut_0 rfl (lv_at hl 3 rfl) ?_
          refine lv_iconst (v := nI 0) hx hb dL_cut_1 (by decide) ?_
          refine lv_aload_n hx hb dL_cut_2 rfl (lv_at hl 0 rfl) ?_
          refine lv_iload_n hx hb dL_cut_3 rfl (lv_at hl 1 rfl) ?_
          refine lv_iload_n hx hb dL_cut_4 rfl (lv_at hl 2 rfl) ?_
          refine wr_call (X := OW oa ko o) (va_runV (As := [.int (nI i), .int (nI j)]) (rest := [.int (nI 0), .ref oa]) ⟨hx, hb, hml, hown, hta⟩ (c_P_cut l dC dI ad k P F T s.heap.size i j (Nat.not_le.mp h1) hw hi9 hj9 h2) (cwV 2 hta (gV m_306 m_307 m_308 m_1 m_309) rfl rfl rfl (by decide +kernel) ⟨Nat.le_of_ble_eq_true rfl, Nat.le_of_ble_eq_true rfl⟩) (wr_V nW_ok hX (hK.sub [1, 2, 3, 4, 5, 6, 7, 8, 9, 10] rfl) (hP.sub [1, 2, 3, 4, 5, 6, 7, 8, 9, 10, 11, 12] rfl) (hD.sub [1, 2, 3, 4, 5, 6, 7, 8, 9, 10, 11, 12] (by decide) rfl) (ci := 1) (q0 := 0) rfl rfl) rfl rfl hl.1 rfl (lv_room (Nat.le_of_ble_eq_true rfl)) dL_cut_5 ⟨Nat.zero_le _, Nat.zero_le _⟩) hP hD hS hA rfl (fun H locs hP hD hS => ?_)
          have hP : va_P (dC, dI) vwCl (OW oa ko o ++ (PW ad k (ps (upd P.K P.rows 1) (upd P.V P.rows 0) (vp_updL P.B P.rows 1) P.L P.wk (P.rows + 1) P.rin P.stp P.run P.lat) ++ (FW ad k (upd (upd F (P.rows * 12 + i) 1) (P.rows * 12 + j) 1) ++ TW ad k T))) H := hP
          have hD : va_D A (OW oa ko o ++ (PW ad k (ps (upd P.K P.rows 1) (upd P.V P.rows 0) (vp_updL P.B P.rows 1) P.L P.wk (P.rows + 1) P.rin P.stp P.run P.lat) ++ (FW ad k (upd (upd F (P.rows * 12 + i) 1) (P.rows * 12 + j) 1) ++ TW ad k T))) := hD
          refine W.eq (g2 := F0 m 8 ls [.int (nI P.rows), .int (nI 0), .ref oa]) rfl ?_
          refine lv_i2l (v := (nI P.rows).toInt64) hx hb dL_cut_8 rfl ?_
          refine na_last hx hb hK hP hD hS 0 0 rfl rfl (i := 0) (x := (nI P.rows).toInt64) (by omega) (by decide) dL_cut_9 (fun H locs hP hD hS => ?_)
          have hP : va_P (dC, dI) vwCl (OW oa ko (vp_updL o 0 ((nI P.rows).toInt64)) ++ (PW ad k (ps (upd P.K P.rows 1) (upd P.V P.rows 0) (vp_updL P.B P.rows 1) P.L P.wk (P.rows + 1) P.rin P.stp P.run P.lat) ++ (FW ad k (upd (upd F (P.rows * 12 + i) 1) (P.rows * 12 + j) 1) ++ TW ad k T))) H := hP
          have hD : va_D A (OW oa ko (vp_updL o 0 ((nI P.rows).toInt64)) ++ (PW ad k (ps (upd P.K P.rows 1) (upd P.V P.rows 0) (vp_updL P.B P.rows 1) P.L P.wk (P.rows + 1) P.rin P.stp P.run P.lat) ++ (FW ad k (upd (upd F (P.rows * 12 + i) 1) (P.rows * 12 + j) 1) ++ TW ad k T))) := hD
          refine lv_goto (tgt := 25) hx hb dL_cut_10 (by decide) ?_
          refine lv_iconst (v := nI 0) hx hb dL_cut_25 (by decide) ?_
          refine W.widen (k := 1) (n := 6) (Nat.zero_le _) (Nat.zero_le _) ?_
          exact vx_ret (W.iret (v := nI 0) hx hb hr (fun t ht hW => ⟨by rw [hk9], by rw [ht, eO, eP, eF]; exact hP, hS.F ht⟩) hS.2.2 dL_cut_26)

set_option maxHeartbeats 4000000 in
set_option maxRecDepth 100000 in
theorem h_L_right (l : Launch) (hlt : l.stackTraces = false) (dC : Nat → ClassId) (dI : Nat → Nat → Nat) (ad : Nat → Nat) (k : Nat → ClassId) (oa : Nat) (ko : ClassId) (o : Nat → Int64) (P : PS) (F : Nat → Int32) (T : TS) (sz : Nat) (x : Int32) (v : Int64) (hw : T.w ≤ 12) (hh : T.h ≤ 24) (hro : P.rows ≤ 12) (hri : P.rin ≤ P.rows) : vx_Met l yL_right wL_right ({ frames := 8, cells := 1, slots := 6, locals := 150 }) (hPc [.ref (ad 7), .int x, .long v, .ref oa] sz (dC, dI) vwCl (OW oa ko o ++ (PW ad k P ++ (FW ad k F ++ TW ad k T))) (OQ ko ++ (PK k ++ (FK k ++ TK k)))) (wQ (some (.int (nI (kRi P x v)))) (dC, dI) vwCl (OW oa ko (oU (kRi P x v) o (if (sRi P T x v).1 then 1 else 0)) ++ (PW ad k (ps ((sRi P T x v).2.1.K) ((sRi P T x v).2.1.V) ((sRi P T x v).2.1.B) ((sRi P T x v).2.1.L) ((sRi P T x v).2.1.wk) ((sRi P T x v).2.1.rows) ((sRi P T x v).2.1.rin) ((sRi P T x v).2.1.stp) ((sRi P T x v).2.1.run) ((sRi P T x v).2.1.lat)) ++ (FW ad k F ++ TW ad k ((sRi P T x v).2.2)))) (va_A (OW oa ko o ++ (PW ad k P ++ (FW ad k F ++ TW ad k T))) sz)) (fun _ _ _ => False) 1 6 (va_A (OW oa ko o ++ (PW ad k P ++ (FW ad k F ++ TW ad k T))) sz) := by
  refine vx_ofWH (cc := bL_right) (maxL := 6) (ret := (some .int)) (by decide) rfl ?_
  intro p e s m args below meth c s₁ B hml hv
  obtain ⟨rfl, hsz, hP, hK, hD0, hX, hss, hzz⟩ := hv
  have hx := B.exec
  have hb := B.bytes
  have hr := B.returns
  have hts := atoms_spec (ws := wL_right) B.pre
  have hta : ∀ w ∈ AW, w.before _ s = true := fun w h => hts w (List.mem_cons_of_mem _ h)
  have hown : s.vm.findClass RL = some m.cls := findClass_of_methodNamed B.named
  have hlocks := B.notSynchronized
  have htb := vx_table (x := yL_right) B (hts _ List.mem_cons_self)
  subst hsz
  have hD := hD0.self (sz := s.heap.size)
  generalize hAe : va_A (OW oa ko o ++ (PW ad k P ++ (FW ad k F ++ TW ad k T))) s.heap.size = A at hD ⊢
  have hA : ∀ q : Nat, s.heap.size ≤ q → A q := fun q h => by rw [← hAe]; exact Or.inr h
  have hS : va_S A s.heap s.heap [] := va_S.rf
  have hl := lv_entry ([.ref (ad 7), .int x, .long v, .ref oa]) (n := 6) (Nat.le_of_ble_eq_true rfl)
  rw [lg_entry_eq]
  generalize (lg_sl ([.ref (ad 7), .int x, .long v, .ref oa]) ++ List.replicate (6 - (lg_sl ([.ref (ad 7), .int x, .long v, .ref oa])).length) Slot.unset).toArray = ls at hl ⊢
  obtain ⟨ohq1, hq1⟩ : ∃ o9, idx P.rows x = o9 := ⟨_, rfl⟩
  cases ohq1 with
  | none =>
    have hk9 : kRi P x v = 1 := by simp only [kRi, hq1]
    have hl : lv_has ls 6 [(0, .ref (ad 7)), (1, .int x), (2, .long v), (4, .ref oa)] := hl
    have eS : sRi P T x v = (false, P, T) := by rw [sRi, if_neg (by rw [hk9]; decide)]
    have eO : oU (kRi P x v) o (if (sRi P T x v).1 then 1 else 0) = o := by rw [oU, if_neg (by rw [hk9]; decide)]
    refine lv_aload hx hb dL_right_0 (lv_at hl 3 rfl) ?_
    refine lv_iconst (v := nI 0) hx hb dL_right_2 (by decide) ?_
    refine lv_aload_n hx hb dL_right_3 rfl (lv_at hl 0 rfl) ?_
    refine lv_iload_n hx hb dL_right_4 rfl (lv_at hl 1 rfl) ?_
    refine lv_lload_n hx hb dL_right_5 rfl (lv_at hl 2 rfl) ?_
    refine tx_call (vx_runV (As := [.int x, .long v]) (rest := [.int (nI 0), .ref oa]) ⟨hx, hb, hml, hown, hta⟩ (t_P_right_I l hlt dC dI ad k P F T x v hro hq1) (cwV 2 hta (gV m_314 m_315 m_316 m_1 m_317) rfl rfl rfl (by decide +kernel) ⟨Nat.le_of_ble_eq_true rfl, Nat.le_of_ble_eq_true rfl⟩) (td_V hX hss hzz (hK.sub [1, 2, 3, 4, 5, 6, 7, 8, 9, 10] rfl) (hP.sub [1, 2, 3, 4, 5, 6, 7, 8, 9, 10, 11, 12] rfl) (ci := 1) (q0 := 0) rfl rfl) rfl rfl hl.1 rfl (lv_room (Nat.le_of_ble_eq_true rfl)) dL_right_6 ⟨Nat.le_of_ble_eq_true rfl, Nat.le_of_ble_eq_true rfl⟩) (fun ce q9 H1 k1 k2 k3 k4 k5 => ?_)
    have hP1 := hP_new hP k2
    refine vx_catch (E := eI) (name := eI) (pc := 6) (ls := ls) hown [] { startPc := 0, endPc := 18, handlerPc := 21, catchType := 25 } [{ startPc := 0, endPc := 18, handlerPc := 25, catchType := 15 }] (htb.trans rfl) (fun z hz => nomatch hz) (by decide) (by decide) (hta _ m_271) (va_Nw.use rfl (hss.2.1 (.castable eI eI) (by decide))) k3 k4 k5 ?_
    refine lv_astore (lv' := [(5, .ref q9), (0, .ref (ad 7)), (1, .int x), (2, .long v), (4, .ref oa)]) hx hb dL_right_21 hl (by decide) rfl (fun ls hl => ?_)
    refine lv_iconst (v := nI 1) hx hb dL_right_23 (by decide) ?_
    exact vx_ret (W.iret (v := nI 1) hx hb hr (fun t ht hW => ⟨by rw [hk9], by rw [ht, eO, eS]; exact hP1, by rw [ht]; exact k1, fun q h _ => by rw [ht]; exact k2 q h⟩) (fun q h => nomatch h) dL_right_24)
  | some r =>
    obtain ⟨hr9, rfl⟩ := idx_some hq1
    by_cases h1 : v < -1000000 ∨ 1000000 < v
    · have hk9 : kRi P (nI r) v = 2 := by simp only [kRi, hq1]; rw [if_pos h1]
      have hl : lv_has ls 6 [(0, .ref (ad 7)), (1, .int (nI r)), (2, .long v), (4, .ref oa)] := hl
      have eS : sRi P T (nI r) v = (false, P, T) := by rw [sRi, if_neg (by rw [hk9]; decide)]
      have eO : oU (kRi P (nI r) v) o (if (sRi P T (nI r) v).1 then 1 else 0) = o := by rw [oU, if_neg (by rw [hk9]; decide)]
      refine lv_aload hx hb dL_right_0 (lv_at hl 3 rfl) ?_
      refine lv_iconst (v := nI 0) hx hb dL_right_2 (by decide) ?_
      refine lv_aload_n hx hb dL_right_3 rfl (lv_at hl 0 rfl) ?_
      refine lv_iload_n hx hb dL_right_4 rfl (lv_at hl 1 rfl) ?_
      refine lv_lload_n hx hb dL_right_5 rfl (lv_at hl 2 rfl) ?_
      refine tx_call (vx_runV (As := [.int (nI r), .long v]) (rest := [.int (nI 0), .ref oa]) ⟨hx, hb, hml, hown, hta⟩ (t_P_right_A l hlt dC dI ad k P F T r v hro hr9 h1) (cwV 2 hta (gV m_314 m_315 m_316 m_1 m_317) rfl rfl rfl (by decide +kernel) ⟨Nat.le_of_ble_eq_true rfl, Nat.le_of_ble_eq_true rfl⟩) (td_V hX hss hzz (hK.sub [1, 2, 3, 4, 5, 6, 7, 8, 9, 10] rfl) (hP.sub [1, 2, 3, 4, 5, 6, 7, 8, 9, 10, 11, 12] rfl) (ci := 1) (q0 := 0) rfl rfl) rfl rfl hl.1 rfl (lv_room (Nat.le_of_ble_eq_true rfl)) dL_right_6 ⟨Nat.le_of_ble_eq_true rfl, Nat.le_of_ble_eq_true rfl⟩) (fun ce q9 H1 k1 k2 k3 k4 k5 => ?_)
      have hP1 := hP_new hP k2
      refine vx_catch (E := eA) (name := eA) (pc := 6) (ls := ls) hown [{ startPc := 0, endPc := 18, handlerPc := 21, catchType := 25 }] { startPc := 0, endPc := 18, handlerPc := 25, catchType := 15 } [] (htb.trans rfl) (fun z hz => by
          simp only [List.mem_cons, List.not_mem_nil, or_false] at hz
          subst hz
          exact Or.inr ⟨by decide, eI, hta _ m_271, hss.2.2 (eA, eI) (by decide)⟩) (by decide) (by decide) (hta _ m_146) (va_Nw.use rfl (hss.2.1 (.castable eA eA) (by decide))) k3 k4 k5 ?_
      refine lv_astore (lv' := [(5, .ref q9), (0, .ref (ad 7)), (1, .int (nI r)), (2, .long v), (4, .ref oa)]) hx hb dL_right_25 hl (by decide) rfl (fun ls hl => ?_)
      refine lv_iconst (v := nI 2) hx hb dL_right_27 (by decide) ?_
      exact vx_ret (W.iret (v := nI 2) hx hb hr (fun t ht hW => ⟨by rw [hk9], by rw [ht, eO, eS]; exact hP1, by rw [ht]; exact k1, fun q h _ => by rw [ht]; exact k2 q h⟩) (fun q h => nomatch h) dL_right_28)
    · have hk9 : kRi P (nI r) v = 0 := by simp only [kRi, hq1]; rw [if_neg h1]
      have hl : lv_has ls 6 [(0, .ref (ad 7)), (1, .int (nI r)), (2, .long v), (4, .ref oa)] := hl
      have eS : sRi P T (nI r) v = rtM P T r v := by rw [sRi, if_pos hk9, hq1]; rfl
      have eO : oU (kRi P (nI r) v) o (if (sRi P T (nI r) v).1 then 1 else 0) = vp_updL o 0 (if (rtM P T r v).1 = true then 1 else 0) := by rw [oU, if_pos hk9]; rw [eS]
      refine lv_aload hx hb dL_right_0 (lv_at hl 3 rfl) ?_
      refine lv_iconst (v := nI 0) hx hb dL_right_2 (by decide) ?_
      refine lv_aload_n hx hb dL_right_3 rfl (lv_at hl 0 rfl) ?_
      refine lv_iload_n hx hb dL_right_4 rfl (lv_at hl 1 rfl) ?_
      refine lv_lload_n hx hb dL_right_5 rfl (lv_at hl 2 rfl) ?_
      refine wr_call (X := OW oa ko o) (va_runV (As := [.int (nI r), .long v]) (rest := [.int (nI 0), .ref oa]) ⟨hx, hb, hml, hown, hta⟩ (c_P_right l dC dI ad k P F T s.heap.size r v hro hr9 (by omega) hw hh (fun z => h1 (Or.inl z)) (fun z => h1 (Or.inr z))) (cwV 2 hta (gV m_314 m_315 m_316 m_1 m_317) rfl rfl rfl (by decide +kernel) ⟨Nat.le_of_ble_eq_true rfl, Nat.le_of_ble_eq_true rfl⟩) (wr_V nW_ok hX (hK.sub [1, 2, 3, 4, 5, 6, 7, 8, 9, 10] rfl) (hP.sub [1, 2, 3, 4, 5, 6, 7, 8, 9, 10, 11, 12] rfl) (hD.sub [1, 2, 3, 4, 5, 6, 7, 8, 9, 10, 11, 12] (by decide) rfl) (ci := 1) (q0 := 0) rfl rfl) rfl rfl hl.1 rfl (lv_room (Nat.le_of_ble_eq_true rfl)) dL_right_6 ⟨Nat.zero_le _, Nat.zero_le _⟩) hP hD hS hA rfl (fun H locs hP hD hS => ?_)
      have hP : va_P (dC, dI) vwCl (OW oa ko o ++ (PW ad k (ps ((rtM P T r v).2.1.K) ((rtM P T r v).2.1.V) ((rtM P T r v).2.1.B) ((rtM P T r v).2.1.L) ((rtM P T r v).2.1.wk) ((rtM P T r v).2.1.rows) ((rtM P T r v).2.1.rin) ((rtM P T r v).2.1.stp) ((rtM P T r v).2.1.run) ((rtM P T r v).2.1.lat)) ++ (FW ad k F ++ TW ad k ((rtM P T r v).2.2)))) H := hP
      have hD : va_D A (OW oa ko o ++ (PW ad k (ps ((rtM P T r v).2.1.K) ((rtM P T r v).2.1.V) ((rtM P T r v).2.1.B) ((rtM P T r v).2.1.L) ((rtM P T r v).2.1.wk) ((rtM P T r v).2.1.rows) ((rtM P T r v).2.1.rin) ((rtM P T r v).2.1.stp) ((rtM P T r v).2.1.run) ((rtM P T r v).2.1.lat)) ++ (FW ad k F ++ TW ad k ((rtM P T r v).2.2)))) := hD
      refine W.eq (g2 := F0 m 9 ls [.int (bI (rtM P T r v).1), .int (nI 0), .ref oa]) rfl ?_
      refine lb_eq (tgt := 16) hx hb dL_right_9 (by decide) (fun hb9 => ?_) (fun hb9 => ?_)
      · rw [hb9] at eO
        refine lv_lconst (v := 0) hx hb dL_right_16 (by decide) ?_
        refine na_last hx hb hK hP hD hS 0 0 rfl rfl (i := 0) (x := 0) (by omega) (by decide) dL_right_17 (fun H locs hP hD hS => ?_)
        have hP : va_P (dC, dI) vwCl (OW oa ko (vp_updL o 0 0) ++ (PW ad k (ps ((rtM P T r v).2.1.K) ((rtM P T r v).2.1.V) ((rtM P T r v).2.1.B) ((rtM P T r v).2.1.L) ((rtM P T r v).2.1.wk) ((rtM P T r v).2.1.rows) ((rtM P T r v).2.1.rin) ((rtM P T r v).2.1.stp) ((rtM P T r v).2.1.run) ((rtM P T r v).2.1.lat)) ++ (FW ad k F ++ TW ad k ((rtM P T r v).2.2)))) H := hP
        have hD : va_D A (OW oa ko (vp_updL o 0 0) ++ (PW ad k (ps ((rtM P T r v).2.1.K) ((rtM P T r v).2.1.V) ((rtM P T r v).2.1.B) ((rtM P T r v).2.1.L) ((rtM P T r v).2.1.wk) ((rtM P T r v).2.1.rows) ((rtM P T r v).2.1.rin) ((rtM P T r v).2.1.stp) ((rtM P T r v).2.1.run) ((rtM P T r v).2.1.lat)) ++ (FW ad k F ++ TW ad k ((rtM P T r v).2.2)))) := hD
        refine lv_goto (tgt := 29) hx hb dL_right_18 (by decide) ?_
        refine lv_iconst (v := nI 0) hx hb dL_right_29 (by decide) ?_
        refine W.widen (k := 1) (n := 6) (Nat.zero_le _) (Nat.zero_le _) ?_
        exact vx_ret (W.iret (v := nI 0) hx hb hr (fun t ht hW => ⟨by rw [hk9], by rw [ht, eO, eS]; exact hP, hS.F ht⟩) hS.2.2 dL_right_30)
      · rw [hb9] at eO
        refine lv_lconst (v := 1) hx hb dL_right_12 (by decide) ?_
        refine lv_goto (tgt := 17) hx hb dL_right_13 (by decide) ?_
        refine na_last hx hb hK hP hD hS 0 0 rfl rfl (i := 0) (x := 1) (by omega) (by decide) dL_right_17 (fun H locs hP hD hS => ?_)
        have hP : va_P (dC, dI) vwCl (OW oa ko (vp_updL o 0 1) ++ (PW ad k (ps ((rtM P T r v).2.1.K) ((rtM P T r v).2.1.V) ((rtM P T r v).2.1.B) ((rtM P T r v).2.1.L) ((rtM P T r v).2.1.wk) ((rtM P T r v).2.1.rows) ((rtM P T r v).2.1.rin) ((rtM P T r v).2.1.stp) ((rtM P T r v).2.1.run) ((rtM P T r v).2.1.lat)) ++ (FW ad k F ++ TW ad k ((rtM P T r v).2.2)))) H := hP
        have hD : va_D A (OW oa ko (vp_updL o 0 1) ++ (PW ad k (ps ((rtM P T r v).2.1.K) ((rtM P T r v).2.1.V) ((rtM P T r v).2.1.B) ((rtM P T r v).2.1.L) ((rtM P T r v).2.1.wk) ((rtM P T r v).2.1.rows) ((rtM P T r v).2.1.rin) ((rtM P T r v).2.1.stp) ((rtM P T r v).2.1.run) ((rtM P T r v).2.1.lat)) ++ (FW ad k F ++ TW ad k ((rtM P T r v).2.2)))) := hD
        refine lv_goto (tgt := 29) hx hb dL_right_18 (by decide) ?_
        refine lv_iconst (v := nI 0) hx hb dL_right_29 (by decide) ?_
        refine W.widen (k := 1) (n := 6) (Nat.zero_le _) (Nat.zero_le _) ?_
        exact vx_ret (W.iret (v := nI 0) hx hb hr (fun t ht hW => ⟨by rw [hk9], by rw [ht, eO, eS]; exact hP, hS.F ht⟩) hS.2.2 dL_right_30)

set_option maxHeartbeats 4000000 in
set_option maxRecDepth 100000 in
theorem h_L_run (l : Launch) (hlt : l.stackTraces = false) (dC : Nat → ClassId) (dI : Nat → Nat → Nat) (ad : Nat → Nat) (k : Nat → ClassId) (oa : Nat) (ko : ClassId) (o : Nat → Int64) (P : PS) (F : Nat → Int32) (T : TS) (sz : Nat) (x : Int32) (hw : T.w ≤ 12) (hh : T.h ≤ 24) (hro : P.rows ≤ 12) (hri : P.rin ≤ P.rows) : vx_Met l yL_run wL_run ({ frames := 8, cells := 1, slots := 6, locals := 150 }) (hPc [.ref (ad 7), .int x, .ref oa] sz (dC, dI) vwCl (OW oa ko o ++ (PW ad k P ++ (FW ad k F ++ TW ad k T))) (OQ ko ++ (PK k ++ (FK k ++ TK k)))) (wQ (some (.int (nI (kRu x)))) (dC, dI) vwCl (OW oa ko (oU (kRu x) o ((sRu P F T x).1.toInt64)) ++ (PW ad k (ps ((sRu P F T x).2.1.K) ((sRu P F T x).2.1.V) ((sRu P F T x).2.1.B) ((sRu P F T x).2.1.L) ((sRu P F T x).2.1.wk) ((sRu P F T x).2.1.rows) ((sRu P F T x).2.1.rin) ((sRu P F T x).2.1.stp) ((sRu P F T x).2.1.run) ((sRu P F T x).2.1.lat)) ++ (FW ad k F ++ TW ad k ((sRu P F T x).2.2)))) (va_A (OW oa ko o ++ (PW ad k P ++ (FW ad k F ++ TW ad k T))) sz)) (fun _ _ _ => False) 1 6 (va_A (OW oa ko o ++ (PW ad k P ++ (FW ad k F ++ TW ad k T))) sz) := by
  refine vx_ofWH (cc := bL_run) (maxL := 4) (ret := (some .int)) (by decide) rfl ?_
  intro p e s m args below meth c s₁ B hml hv
  obtain ⟨rfl, hsz, hP, hK, hD0, hX, hss, hzz⟩ := hv
  have hx := B.exec
  have hb := B.bytes
  have hr := B.returns
  have hts := atoms_spec (ws := wL_run) B.pre
  have hta : ∀ w ∈ AW, w.before _ s = true := fun w h => hts w (List.mem_cons_of_mem _ h)
  have hown : s.vm.findClass RL = some m.cls := findClass_of_methodNamed B.named
  have hlocks := B.notSynchronized
  have htb := vx_table (x := yL_run) B (hts _ List.mem_cons_self)
  subst hsz
  have hD := hD0.self (sz := s.heap.size)
  generalize hAe : va_A (OW oa ko o ++ (PW ad k P ++ (FW ad k F ++ TW ad k T))) s.heap.size = A at hD ⊢
  have hA : ∀ q : Nat, s.heap.size ≤ q → A q := fun q h => by rw [← hAe]; exact Or.inr h
  have hS : va_S A s.heap s.heap [] := va_S.rf
  have hl := lv_entry ([.ref (ad 7), .int x, .ref oa]) (n := 4) (Nat.le_of_ble_eq_true rfl)
  rw [lg_entry_eq]
  generalize (lg_sl ([.ref (ad 7), .int x, .ref oa]) ++ List.replicate (4 - (lg_sl ([.ref (ad 7), .int x, .ref oa])).length) Slot.unset).toArray = ls at hl ⊢
  obtain ⟨ohq1, hq1⟩ : ∃ o9, idx 1001 x = o9 := ⟨_, rfl⟩
  cases ohq1 with
  | none =>
    have hk9 : kRu x = 1 := by simp only [kRu, hq1]
    have hl : lv_has ls 4 [(0, .ref (ad 7)), (1, .int x), (2, .ref oa)] := hl
    have eS : sRu P F T x = (0, P, T) := by simp only [sRu, hq1]
    have eO : oU (kRu x) o ((sRu P F T x).1.toInt64) = o := by rw [oU, if_neg (by rw [hk9]; decide)]
    refine lv_aload_n hx hb dL_run_0 rfl (lv_at hl 2 rfl) ?_
    refine lv_iconst (v := nI 0) hx hb dL_run_1 (by decide) ?_
    refine lv_aload_n hx hb dL_run_2 rfl (lv_at hl 0 rfl) ?_
    refine lv_iload_n hx hb dL_run_3 rfl (lv_at hl 1 rfl) ?_
    refine tx_call (vx_runV (As := [.int x]) (rest := [.int (nI 0), .ref oa]) ⟨hx, hb, hml, hown, hta⟩ (t_P_run_A l hlt dC dI ad k P F T x hq1) (cwV 1 hta (gV m_358 m_359 m_360 m_1 m_361) rfl rfl rfl (by decide +kernel) ⟨Nat.le_of_ble_eq_true rfl, Nat.le_of_ble_eq_true rfl⟩) (td_V hX hss hzz (hK.sub [1, 2, 3, 4, 5, 6, 7, 8, 9, 10] rfl) (hP.sub [1, 2, 3, 4, 5, 6, 7, 8, 9, 10, 11, 12] rfl) (ci := 1) (q0 := 0) rfl rfl) rfl rfl hl.1 rfl (lv_room (Nat.le_of_ble_eq_true rfl)) dL_run_4 ⟨Nat.le_of_ble_eq_true rfl, Nat.le_of_ble_eq_true rfl⟩) (fun ce q9 H1 k1 k2 k3 k4 k5 => ?_)
    have hP1 := hP_new hP k2
    refine vx_catch (E := eA) (name := eA) (pc := 4) (ls := ls) hown [] { startPc := 0, endPc := 9, handlerPc := 12, catchType := 15 } [] (htb.trans rfl) (fun z hz => nomatch hz) (by decide) (by decide) (hta _ m_146) (va_Nw.use rfl (hss.2.1 (.castable eA eA) (by decide))) k3 k4 k5 ?_
    refine lv_astore_n (lv' := [(3, .ref q9), (0, .ref (ad 7)), (1, .int x), (2, .ref oa)]) hx hb dL_run_12 rfl hl (by decide) rfl (fun ls hl => ?_)
    refine lv_iconst (v := nI 1) hx hb dL_run_13 (by decide) ?_
    exact vx_ret (W.iret (v := nI 1) hx hb hr (fun t ht hW => ⟨by rw [hk9], by rw [ht, eO, eS]; exact hP1, by rw [ht]; exact k1, fun q h _ => by rw [ht]; exact k2 q h⟩) (fun q h => nomatch h) dL_run_14)
  | some mo =>
    obtain ⟨hm9, rfl⟩ := idx_some hq1
    have hk9 : kRu (nI mo) = 0 := by simp only [kRu, hq1]
    have hl : lv_has ls 4 [(0, .ref (ad 7)), (1, .int (nI mo)), (2, .ref oa)] := hl
    have eS : sRu P F T (nI mo) = ruP P F T mo := by simp only [sRu, hq1]
    have eO : oU (kRu (nI mo)) o ((sRu P F T (nI mo)).1.toInt64) = vp_updL o 0 ((ruP P F T mo).1.toInt64) := by rw [oU, if_pos hk9]; rw [eS]
    refine lv_aload_n hx hb dL_run_0 rfl (lv_at hl 2 rfl) ?_
    refine lv_iconst (v := nI 0) hx hb dL_run_1 (by decide) ?_
    refine lv_aload_n hx hb dL_run_2 rfl (lv_at hl 0 rfl) ?_
    refine lv_iload_n hx hb dL_run_3 rfl (lv_at hl 1 rfl) ?_
    refine wr_call (X := OW oa ko o) (va_runV (As := [.int (nI mo)]) (rest := [.int (nI 0), .ref oa]) ⟨hx, hb, hml, hown, hta⟩ (c_P_run l dC dI ad k P F T s.heap.size mo hw hh hro hri (by omega)) (cwV 1 hta (gV m_358 m_359 m_360 m_1 m_361) rfl rfl rfl (by decide +kernel) ⟨Nat.le_of_ble_eq_true rfl, Nat.le_of_ble_eq_true rfl⟩) (wr_V nW_ok hX (hK.sub [1, 2, 3, 4, 5, 6, 7, 8, 9, 10] rfl) (hP.sub [1, 2, 3, 4, 5, 6, 7, 8, 9, 10, 11, 12] rfl) (hD.sub [1, 2, 3, 4, 5, 6, 7, 8, 9, 10, 11, 12] (by decide) rfl) (ci := 1) (q0 := 0) rfl rfl) rfl rfl hl.1 rfl (lv_room (Nat.le_of_ble_eq_true rfl)) dL_run_4 ⟨Nat.zero_le _, Nat.zero_le _⟩) hP hD hS hA rfl (fun H locs hP hD hS => ?_)
    have hP : va_P (dC, dI) vwCl (OW oa ko o ++ (PW ad k (ps ((ruP P F T mo).2.1.K) ((ruP P F T mo).2.1.V) ((ruP P F T mo).2.1.B) ((ruP P F T mo).2.1.L) ((ruP P F T mo).2.1.wk) ((ruP P F T mo).2.1.rows) ((ruP P F T mo).2.1.rin) ((ruP P F T mo).2.1.stp) ((ruP P F T mo).2.1.run) ((ruP P F T mo).2.1.lat)) ++ (FW ad k F ++ TW ad k ((ruP P F T mo).2.2)))) H := hP
    have hD : va_D A (OW oa ko o ++ (PW ad k (ps ((ruP P F T mo).2.1.K) ((ruP P F T mo).2.1.V) ((ruP P F T mo).2.1.B) ((ruP P F T mo).2.1.L) ((ruP P F T mo).2.1.wk) ((ruP P F T mo).2.1.rows) ((ruP P F T mo).2.1.rin) ((ruP P F T mo).2.1.stp) ((ruP P F T mo).2.1.run) ((ruP P F T mo).2.1.lat)) ++ (FW ad k F ++ TW ad k ((ruP P F T mo).2.2)))) := hD
    refine W.eq (g2 := F0 m 7 ls [.int ((ruP P F T mo).1), .int (nI 0), .ref oa]) rfl ?_
    refine lv_i2l (v := ((ruP P F T mo).1).toInt64) hx hb dL_run_7 rfl ?_
    refine na_last hx hb hK hP hD hS 0 0 rfl rfl (i := 0) (x := ((ruP P F T mo).1).toInt64) (by omega) (by decide) dL_run_8 (fun H locs hP hD hS => ?_)
    have hP : va_P (dC, dI) vwCl (OW oa ko (vp_updL o 0 (((ruP P F T mo).1).toInt64)) ++ (PW ad k (ps ((ruP P F T mo).2.1.K) ((ruP P F T mo).2.1.V) ((ruP P F T mo).2.1.B) ((ruP P F T mo).2.1.L) ((ruP P F T mo).2.1.wk) ((ruP P F T mo).2.1.rows) ((ruP P F T mo).2.1.rin) ((ruP P F T mo).2.1.stp) ((ruP P F T mo).2.1.run) ((ruP P F T mo).2.1.lat)) ++ (FW ad k F ++ TW ad k ((ruP P F T mo).2.2)))) H := hP
    have hD : va_D A (OW oa ko (vp_updL o 0 (((ruP P F T mo).1).toInt64)) ++ (PW ad k (ps ((ruP P F T mo).2.1.K) ((ruP P F T mo).2.1.V) ((ruP P F T mo).2.1.B) ((ruP P F T mo).2.1.L) ((ruP P F T mo).2.1.wk) ((ruP P F T mo).2.1.rows) ((ruP P F T mo).2.1.rin) ((ruP P F T mo).2.1.stp) ((ruP P F T mo).2.1.run) ((ruP P F T mo).2.1.lat)) ++ (FW ad k F ++ TW ad k ((ruP P F T mo).2.2)))) := hD
    refine lv_goto (tgt := 15) hx hb dL_run_9 (by decide) ?_
    refine lv_iconst (v := nI 0) hx hb dL_run_15 (by decide) ?_
    refine W.widen (k := 1) (n := 6) (Nat.zero_le _) (Nat.zero_le _) ?_
    exact vx_ret (W.iret (v := nI 0) hx hb hr (fun t ht hW => ⟨by rw [hk9], by rw [ht, eO, eS]; exact hP, hS.F ht⟩) hS.2.2 dL_run_16)

set_option maxHeartbeats 4000000 in
set_option maxRecDepth 100000 in
theorem h_L_value (l : Launch) (hlt : l.stackTraces = false) (dC : Nat → ClassId) (dI : Nat → Nat → Nat) (ad : Nat → Nat) (k : Nat → ClassId) (oa : Nat) (ko : ClassId) (o : Nat → Int64) (P : PS) (F : Nat → Int32) (T : TS) (sz : Nat) (pt : Int32) (hw : T.w ≤ 12) (hh : T.h ≤ 24) (hro : P.rows ≤ 12) (hri : P.rin ≤ P.rows) : vx_Met l yL_value wL_value ({ frames := 8, cells := 1, slots := 6, locals := 150 }) (hPc [.ref (ad 7), .int pt, .ref oa] sz (dC, dI) vwCl (OW oa ko o ++ (PW ad k P ++ (FW ad k F ++ TW ad k T))) (OQ ko ++ (PK k ++ (FK k ++ TK k)))) (wQ (some (.int (nI (kVa pt)))) (dC, dI) vwCl (OW oa ko (oU (kVa pt) o (ltM (T.C (0 * 13 + 0)) T.d pt)) ++ (PW ad k P ++ (FW ad k F ++ TW ad k T))) (va_A (OW oa ko o ++ (PW ad k P ++ (FW ad k F ++ TW ad k T))) sz)) (fun _ _ _ => False) 1 6 (va_A (OW oa ko o ++ (PW ad k P ++ (FW ad k F ++ TW ad k T))) sz) := by
  refine vx_ofWH (cc := bL_value) (maxL := 4) (ret := (some .int)) (by decide) rfl ?_
  intro p e s m args below meth c s₁ B hml hv
  obtain ⟨rfl, hsz, hP, hK, hD0, hX, hss, hzz⟩ := hv
  have hx := B.exec
  have hb := B.bytes
  have hr := B.returns
  have hts := atoms_spec (ws := wL_value) B.pre
  have hta : ∀ w ∈ AW, w.before _ s = true := fun w h => hts w (List.mem_cons_of_mem _ h)
  have hown : s.vm.findClass RL = some m.cls := findClass_of_methodNamed B.named
  have hlocks := B.notSynchronized
  have htb := vx_table (x := yL_value) B (hts _ List.mem_cons_self)
  subst hsz
  have hD := hD0.self (sz := s.heap.size)
  generalize hAe : va_A (OW oa ko o ++ (PW ad k P ++ (FW ad k F ++ TW ad k T))) s.heap.size = A at hD ⊢
  have hA : ∀ q : Nat, s.heap.size ≤ q → A q := fun q h => by rw [← hAe]; exact Or.inr h
  have hS : va_S A s.heap s.heap [] := va_S.rf
  have hl := lv_entry ([.ref (ad 7), .int pt, .ref oa]) (n := 4) (Nat.le_of_ble_eq_true rfl)
  rw [lg_entry_eq]
  generalize (lg_sl ([.ref (ad 7), .int pt, .ref oa]) ++ List.replicate (4 - (lg_sl ([.ref (ad 7), .int pt, .ref oa])).length) Slot.unset).toArray = ls at hl ⊢
  by_cases h1 : pt = 0 ∨ pt = 1
  · have hk9 : kVa pt = 0 := by rw [kVa, if_pos h1]
    have hl : lv_has ls 4 [(0, .ref (ad 7)), (1, .int pt), (2, .ref oa)] := hl
    have eO : oU (kVa pt) o (ltM (T.C (0 * 13 + 0)) T.d pt) = vp_updL o 0 (ltM (T.C (0 * 13 + 0)) T.d pt) := by rw [oU, if_pos hk9]
    refine lv_aload_n hx hb dL_value_0 rfl (lv_at hl 2 rfl) ?_
    refine lv_iconst (v := nI 0) hx hb dL_value_1 (by decide) ?_
    refine lv_aload_n hx hb dL_value_2 rfl (lv_at hl 0 rfl) ?_
    refine lv_iload_n hx hb dL_value_3 rfl (lv_at hl 1 rfl) ?_
    refine rd_call (va_runV (As := [.int pt]) (rest := [.int (nI 0), .ref oa]) ⟨hx, hb, hml, hown, hta⟩ (c_P_value l dC dI ad k P F T pt h1) (cwV 1 hta (gV m_433 m_434 m_435 m_1 m_436) rfl rfl rfl (by decide +kernel) ⟨Nat.le_of_ble_eq_true rfl, Nat.le_of_ble_eq_true rfl⟩) (rd_V nW_ok hX (hK.sub [1, 2, 3, 4, 5, 6, 7, 8, 9, 10] rfl) (hP.sub [1, 2, 3, 4, 5, 6, 7, 8, 9, 10, 11, 12] rfl) (ci := 1) (q0 := 0) rfl rfl) rfl rfl hl.1 rfl (lv_room (Nat.le_of_ble_eq_true rfl)) dL_value_4 ⟨Nat.zero_le _, Nat.zero_le _⟩) ?_
    refine W.eq (g2 := F0 m 7 ls [.long (ltM (T.C (0 * 13 + 0)) T.d pt), .int (nI 0), .ref oa]) rfl ?_
    refine na_last hx hb hK hP hD hS 0 0 rfl rfl (i := 0) (x := ltM (T.C (0 * 13 + 0)) T.d pt) (by omega) (by decide) dL_value_7 (fun H locs hP hD hS => ?_)
    have hP : va_P (dC, dI) vwCl (OW oa ko (vp_updL o 0 (ltM (T.C (0 * 13 + 0)) T.d pt)) ++ (PW ad k P ++ (FW ad k F ++ TW ad k T))) H := hP
    have hD : va_D A (OW oa ko (vp_updL o 0 (ltM (T.C (0 * 13 + 0)) T.d pt)) ++ (PW ad k P ++ (FW ad k F ++ TW ad k T))) := hD
    refine lv_goto (tgt := 14) hx hb dL_value_8 (by decide) ?_
    refine lv_iconst (v := nI 0) hx hb dL_value_14 (by decide) ?_
    refine W.widen (k := 1) (n := 6) (Nat.zero_le _) (Nat.zero_le _) ?_
    exact vx_ret (W.iret (v := nI 0) hx hb hr (fun t ht hW => ⟨by rw [hk9], by rw [ht, eO]; exact hP, hS.F ht⟩) hS.2.2 dL_value_15)
  · have hk9 : kVa pt = 1 := by rw [kVa, if_neg h1]
    have hl : lv_has ls 4 [(0, .ref (ad 7)), (1, .int pt), (2, .ref oa)] := hl
    have eO : oU (kVa pt) o (ltM (T.C (0 * 13 + 0)) T.d pt) = o := by rw [oU, if_neg (by rw [hk9]; decide)]
    refine lv_aload_n hx hb dL_value_0 rfl (lv_at hl 2 rfl) ?_
    refine lv_iconst (v := nI 0) hx hb dL_value_1 (by decide) ?_
    refine lv_aload_n hx hb dL_value_2 rfl (lv_at hl 0 rfl) ?_
    refine lv_iload_n hx hb dL_value_3 rfl (lv_at hl 1 rfl) ?_
    refine tx_call (vx_runV (As := [.int pt]) (rest := [.int (nI 0), .ref oa]) ⟨hx, hb, hml, hown, hta⟩ (t_P_value_A l hlt dC dI ad k P F T pt h1) (cwV 1 hta (gV m_433 m_434 m_435 m_1 m_436) rfl rfl rfl (by decide +kernel) ⟨Nat.le_of_ble_eq_true rfl, Nat.le_of_ble_eq_true rfl⟩) (td_V hX hss hzz (hK.sub [1, 2, 3, 4, 5, 6, 7, 8, 9, 10] rfl) (hP.sub [1, 2, 3, 4, 5, 6, 7, 8, 9, 10, 11, 12] rfl) (ci := 1) (q0 := 0) rfl rfl) rfl rfl hl.1 rfl (lv_room (Nat.le_of_ble_eq_true rfl)) dL_value_4 ⟨Nat.le_of_ble_eq_true rfl, Nat.le_of_ble_eq_true rfl⟩) (fun ce q9 H1 k1 k2 k3 k4 k5 => ?_)
    have hP1 := hP_new hP k2
    refine vx_catch (E := eA) (name := eA) (pc := 4) (ls := ls) hown [] { startPc := 0, endPc := 8, handlerPc := 11, catchType := 15 } [] (htb.trans rfl) (fun z hz => nomatch hz) (by decide) (by decide) (hta _ m_146) (va_Nw.use rfl (hss.2.1 (.castable eA eA) (by decide))) k3 k4 k5 ?_
    refine lv_astore_n (lv' := [(3, .ref q9), (0, .ref (ad 7)), (1, .int pt), (2, .ref oa)]) hx hb dL_value_11 rfl hl (by decide) rfl (fun ls hl => ?_)
    refine lv_iconst (v := nI 1) hx hb dL_value_12 (by decide) ?_
    exact vx_ret (W.iret (v := nI 1) hx hb hr (fun t ht hW => ⟨by rw [hk9], by rw [ht, eO]; exact hP1, by rw [ht]; exact k1, fun q h _ => by rw [ht]; exact k2 q h⟩) (fun q h => nomatch h) dL_value_13)

set_option maxHeartbeats 4000000 in
set_option maxRecDepth 100000 in
theorem h_L_share (l : Launch) (hlt : l.stackTraces = false) (dC : Nat → ClassId) (dI : Nat → Nat → Nat) (ad : Nat → Nat) (k : Nat → ClassId) (oa : Nat) (ko : ClassId) (o : Nat → Int64) (P : PS) (F : Nat → Int32) (T : TS) (sz : Nat) (x pt : Int32) (hw : T.w ≤ 12) (hh : T.h ≤ 24) (hro : P.rows ≤ 12) (hri : P.rin ≤ P.rows) : vx_Met l yL_share wL_share ({ frames := 8, cells := 1, slots := 6, locals := 150 }) (hPc [.ref (ad 7), .int x, .int pt, .ref oa] sz (dC, dI) vwCl (OW oa ko o ++ (PW ad k P ++ (FW ad k F ++ TW ad k T))) (OQ ko ++ (PK k ++ (FK k ++ TK k)))) (wQ (some (.int (nI (kSh T.w x pt)))) (dC, dI) vwCl (OW oa ko (oU (kSh T.w x pt) o (ltM (T.start (nI ((idx T.w x).getD 0))) T.d pt)) ++ (PW ad k P ++ (FW ad k F ++ TW ad k T))) (va_A (OW oa ko o ++ (PW ad k P ++ (FW ad k F ++ TW ad k T))) sz)) (fun _ _ _ => False) 1 6 (va_A (OW oa ko o ++ (PW ad k P ++ (FW ad k F ++ TW ad k T))) sz) := by
  refine vx_ofWH (cc := bL_share) (maxL := 5) (ret := (some .int)) (by decide) rfl ?_
  intro p e s m args below meth c s₁ B hml hv
  obtain ⟨rfl, hsz, hP, hK, hD0, hX, hss, hzz⟩ := hv
  have hx := B.exec
  have hb := B.bytes
  have hr := B.returns
  have hts := atoms_spec (ws := wL_share) B.pre
  have hta : ∀ w ∈ AW, w.before _ s = true := fun w h => hts w (List.mem_cons_of_mem _ h)
  have hown : s.vm.findClass RL = some m.cls := findClass_of_methodNamed B.named
  have hlocks := B.notSynchronized
  have htb := vx_table (x := yL_share) B (hts _ List.mem_cons_self)
  subst hsz
  have hD := hD0.self (sz := s.heap.size)
  generalize hAe : va_A (OW oa ko o ++ (PW ad k P ++ (FW ad k F ++ TW ad k T))) s.heap.size = A at hD ⊢
  have hA : ∀ q : Nat, s.heap.size ≤ q → A q := fun q h => by rw [← hAe]; exact Or.inr h
  have hS : va_S A s.heap s.heap [] := va_S.rf
  have hl := lv_entry ([.ref (ad 7), .int x, .int pt, .ref oa]) (n := 5) (Nat.le_of_ble_eq_true rfl)
  rw [lg_entry_eq]
  generalize (lg_sl ([.ref (ad 7), .int x, .int pt, .ref oa]) ++ List.replicate (5 - (lg_sl ([.ref (ad 7), .int x, .int pt, .ref oa])).length) Slot.unset).toArray = ls at hl ⊢
  obtain ⟨ohq1, hq1⟩ : ∃ o9, idx T.w x = o9 := ⟨_, rfl⟩
  cases ohq1 with
  | none =>
    have hk9 : kSh T.w x pt = 1 := by simp only [kSh, hq1]
    have hl : lv_has ls 5 [(0, .ref (ad 7)), (1, .int x), (2, .int pt), (3, .ref oa)] := hl
    have eO : oU (kSh T.w x pt) o (ltM (T.start (nI ((idx T.w x).getD 0))) T.d pt) = o := by rw [oU, if_neg (by rw [hk9]; decide)]
    refine lv_aload_n hx hb dL_share_0 rfl (lv_at hl 3 rfl) ?_
    refine lv_iconst (v := nI 0) hx hb dL_share_1 (by decide) ?_
    refine lv_aload_n hx hb dL_share_2 rfl (lv_at hl 0 rfl) ?_
    refine lv_iload_n hx hb dL_share_3 rfl (lv_at hl 1 rfl) ?_
    refine lv_iload_n hx hb dL_share_4 rfl (lv_at hl 2 rfl) ?_
    refine tx_call (vx_runV (As := [.int x, .int pt]) (rest := [.int (nI 0), .ref oa]) ⟨hx, hb, hml, hown, hta⟩ (t_P_share_I l hlt dC dI ad k P F T x pt hw hq1) (cwV 2 hta (gV m_454 m_455 m_456 m_1 m_457) rfl rfl rfl (by decide +kernel) ⟨Nat.le_of_ble_eq_true rfl, Nat.le_of_ble_eq_true rfl⟩) (td_V hX hss hzz (hK.sub [1, 2, 3, 4, 5, 6, 7, 8, 9, 10] rfl) (hP.sub [1, 2, 3, 4, 5, 6, 7, 8, 9, 10, 11, 12] rfl) (ci := 1) (q0 := 0) rfl rfl) rfl rfl hl.1 rfl (lv_room (Nat.le_of_ble_eq_true rfl)) dL_share_5 ⟨Nat.le_of_ble_eq_true rfl, Nat.le_of_ble_eq_true rfl⟩) (fun ce q9 H1 k1 k2 k3 k4 k5 => ?_)
    have hP1 := hP_new hP k2
    refine vx_catch (E := eI) (name := eI) (pc := 5) (ls := ls) hown [] { startPc := 0, endPc := 9, handlerPc := 12, catchType := 25 } [{ startPc := 0, endPc := 9, handlerPc := 16, catchType := 15 }] (htb.trans rfl) (fun z hz => nomatch hz) (by decide) (by decide) (hta _ m_271) (va_Nw.use rfl (hss.2.1 (.castable eI eI) (by decide))) k3 k4 k5 ?_
    refine lv_astore (lv' := [(4, .ref q9), (0, .ref (ad 7)), (1, .int x), (2, .int pt), (3, .ref oa)]) hx hb dL_share_12 hl (by decide) rfl (fun ls hl => ?_)
    refine lv_iconst (v := nI 1) hx hb dL_share_14 (by decide) ?_
    exact vx_ret (W.iret (v := nI 1) hx hb hr (fun t ht hW => ⟨by rw [hk9], by rw [ht, eO]; exact hP1, by rw [ht]; exact k1, fun q h _ => by rw [ht]; exact k2 q h⟩) (fun q h => nomatch h) dL_share_15)
  | some j =>
    obtain ⟨hj9, rfl⟩ := idx_some hq1
    by_cases h1 : pt = 0 ∨ pt = 1
    · have hk9 : kSh T.w (nI j) pt = 0 := by simp only [kSh, hq1]; rw [if_pos h1]
      have hl : lv_has ls 5 [(0, .ref (ad 7)), (1, .int (nI j)), (2, .int pt), (3, .ref oa)] := hl
      have eO : oU (kSh T.w (nI j) pt) o (ltM (T.start (nI ((idx T.w (nI j)).getD 0))) T.d pt) = vp_updL o 0 (ltM (T.start (nI j)) T.d pt) := by rw [oU, if_pos hk9]; rw [hq1]; rfl
      refine lv_aload_n hx hb dL_share_0 rfl (lv_at hl 3 rfl) ?_
      refine lv_iconst (v := nI 0) hx hb dL_share_1 (by decide) ?_
      refine lv_aload_n hx hb dL_share_2 rfl (lv_at hl 0 rfl) ?_
      refine lv_iload_n hx hb dL_share_3 rfl (lv_at hl 1 rfl) ?_
      refine lv_iload_n hx hb dL_share_4 rfl (lv_at hl 2 rfl) ?_
      refine rd_call (va_runV (As := [.int (nI j), .int pt]) (rest := [.int (nI 0), .ref oa]) ⟨hx, hb, hml, hown, hta⟩ (c_P_share l dC dI ad k P F T j pt hw hh hj9 h1) (cwV 2 hta (gV m_454 m_455 m_456 m_1 m_457) rfl rfl rfl (by decide +kernel) ⟨Nat.le_of_ble_eq_true rfl, Nat.le_of_ble_eq_true rfl⟩) (rd_V nW_ok hX (hK.sub [1, 2, 3, 4, 5, 6, 7, 8, 9, 10] rfl) (hP.sub [1, 2, 3, 4, 5, 6, 7, 8, 9, 10, 11, 12] rfl) (ci := 1) (q0 := 0) rfl rfl) rfl rfl hl.1 rfl (lv_room (Nat.le_of_ble_eq_true rfl)) dL_share_5 ⟨Nat.zero_le _, Nat.zero_le _⟩) ?_
      refine W.eq (g2 := F0 m 8 ls [.long (ltM (T.start (nI j)) T.d pt), .int (nI 0), .ref oa]) rfl ?_
      refine na_last hx hb hK hP hD hS 0 0 rfl rfl (i := 0) (x := ltM (T.start (nI j)) T.d pt) (by omega) (by decide) dL_share_8 (fun H locs hP hD hS => ?_)
      have hP : va_P (dC, dI) vwCl (OW oa ko (vp_updL o 0 (ltM (T.start (nI j)) T.d pt)) ++ (PW ad k P ++ (FW ad k F ++ TW ad k T))) H := hP
      have hD : va_D A (OW oa ko (vp_updL o 0 (ltM (T.start (nI j)) T.d pt)) ++ (PW ad k P ++ (FW ad k F ++ TW ad k T))) := hD
      refine lv_goto (tgt := 20) hx hb dL_share_9 (by decide) ?_
      refine lv_iconst (v := nI 0) hx hb dL_share_20 (by decide) ?_
      refine W.widen (k := 1) (n := 6) (Nat.zero_le _) (Nat.zero_le _) ?_
      exact vx_ret (W.iret (v := nI 0) hx hb hr (fun t ht hW => ⟨by rw [hk9], by rw [ht, eO]; exact hP, hS.F ht⟩) hS.2.2 dL_share_21)
    · have hk9 : kSh T.w (nI j) pt = 2 := by simp only [kSh, hq1]; rw [if_neg h1]
      have hl : lv_has ls 5 [(0, .ref (ad 7)), (1, .int (nI j)), (2, .int pt), (3, .ref oa)] := hl
      have eO : oU (kSh T.w (nI j) pt) o (ltM (T.start (nI ((idx T.w (nI j)).getD 0))) T.d pt) = o := by rw [oU, if_neg (by rw [hk9]; decide)]
      refine lv_aload_n hx hb dL_share_0 rfl (lv_at hl 3 rfl) ?_
      refine lv_iconst (v := nI 0) hx hb dL_share_1 (by decide) ?_
      refine lv_aload_n hx hb dL_share_2 rfl (lv_at hl 0 rfl) ?_
      refine lv_iload_n hx hb dL_share_3 rfl (lv_at hl 1 rfl) ?_
      refine lv_iload_n hx hb dL_share_4 rfl (lv_at hl 2 rfl) ?_
      refine tx_call (vx_runV (As := [.int (nI j), .int pt]) (rest := [.int (nI 0), .ref oa]) ⟨hx, hb, hml, hown, hta⟩ (t_P_share_A l hlt dC dI ad k P F T j pt hw hj9 h1) (cwV 2 hta (gV m_454 m_455 m_456 m_1 m_457) rfl rfl rfl (by decide +kernel) ⟨Nat.le_of_ble_eq_true rfl, Nat.le_of_ble_eq_true rfl⟩) (td_V hX hss hzz (hK.sub [1, 2, 3, 4, 5, 6, 7, 8, 9, 10] rfl) (hP.sub [1, 2, 3, 4, 5, 6, 7, 8, 9, 10, 11, 12] rfl) (ci := 1) (q0 := 0) rfl rfl) rfl rfl hl.1 rfl (lv_room (Nat.le_of_ble_eq_true rfl)) dL_share_5 ⟨Nat.le_of_ble_eq_true rfl, Nat.le_of_ble_eq_true rfl⟩) (fun ce q9 H1 k1 k2 k3 k4 k5 => ?_)
      have hP1 := hP_new hP k2
      refine vx_catch (E := eA) (name := eA) (pc := 5) (ls := ls) hown [{ startPc := 0, endPc := 9, handlerPc := 12, catchType := 25 }] { startPc := 0, endPc := 9, handlerPc := 16, catchType := 15 } [] (htb.trans rfl) (fun z hz => by
          simp only [List.mem_cons, List.not_mem_nil, or_false] at hz
          subst hz
          exact Or.inr ⟨by decide, eI, hta _ m_271, hss.2.2 (eA, eI) (by decide)⟩) (by decide) (by decide) (hta _ m_146) (va_Nw.use rfl (hss.2.1 (.castable eA eA) (by decide))) k3 k4 k5 ?_
      refine lv_astore (lv' := [(4, .ref q9), (0, .ref (ad 7)), (1, .int (nI j)), (2, .int pt), (3, .ref oa)]) hx hb dL_share_16 hl (by decide) rfl (fun ls hl => ?_)
      refine lv_iconst (v := nI 2) hx hb dL_share_18 (by decide) ?_
      exact vx_ret (W.iret (v := nI 2) hx hb hr (fun t ht hW => ⟨by rw [hk9], by rw [ht, eO]; exact hP1, by rw [ht]; exact k1, fun q h _ => by rw [ht]; exact k2 q h⟩) (fun q h => nomatch h) dL_share_19)

set_option maxHeartbeats 4000000 in
set_option maxRecDepth 100000 in
theorem h_L_dual (l : Launch) (hlt : l.stackTraces = false) (dC : Nat → ClassId) (dI : Nat → Nat → Nat) (ad : Nat → Nat) (k : Nat → ClassId) (oa : Nat) (ko : ClassId) (o : Nat → Int64) (P : PS) (F : Nat → Int32) (T : TS) (sz : Nat) (x pt : Int32) (hw : T.w ≤ 12) (hh : T.h ≤ 24) (hro : P.rows ≤ 12) (hri : P.rin ≤ P.rows) : vx_Met l yL_dual wL_dual ({ frames := 8, cells := 1, slots := 6, locals := 150 }) (hPc [.ref (ad 7), .int x, .int pt, .ref oa] sz (dC, dI) vwCl (OW oa ko o ++ (PW ad k P ++ (FW ad k F ++ TW ad k T))) (OQ ko ++ (PK k ++ (FK k ++ TK k)))) (wQ (some (.int (nI (kSh P.rows x pt)))) (dC, dI) vwCl (OW oa ko (oU (kSh P.rows x pt) o (ltM (duL P.K P.L T ((idx P.rows x).getD 0) 0 (liM P.K P.rin ((idx P.rows x).getD 0)) 0) T.d pt)) ++ (PW ad k P ++ (FW ad k F ++ TW ad k T))) (va_A (OW oa ko o ++ (PW ad k P ++ (FW ad k F ++ TW ad k T))) sz)) (fun _ _ _ => False) 1 6 (va_A (OW oa ko o ++ (PW ad k P ++ (FW ad k F ++ TW ad k T))) sz) := by
  refine vx_ofWH (cc := bL_dual) (maxL := 5) (ret := (some .int)) (by decide) rfl ?_
  intro p e s m args below meth c s₁ B hml hv
  obtain ⟨rfl, hsz, hP, hK, hD0, hX, hss, hzz⟩ := hv
  have hx := B.exec
  have hb := B.bytes
  have hr := B.returns
  have hts := atoms_spec (ws := wL_dual) B.pre
  have hta : ∀ w ∈ AW, w.before _ s = true := fun w h => hts w (List.mem_cons_of_mem _ h)
  have hown : s.vm.findClass RL = some m.cls := findClass_of_methodNamed B.named
  have hlocks := B.notSynchronized
  have htb := vx_table (x := yL_dual) B (hts _ List.mem_cons_self)
  subst hsz
  have hD := hD0.self (sz := s.heap.size)
  generalize hAe : va_A (OW oa ko o ++ (PW ad k P ++ (FW ad k F ++ TW ad k T))) s.heap.size = A at hD ⊢
  have hA : ∀ q : Nat, s.heap.size ≤ q → A q := fun q h => by rw [← hAe]; exact Or.inr h
  have hS : va_S A s.heap s.heap [] := va_S.rf
  have hl := lv_entry ([.ref (ad 7), .int x, .int pt, .ref oa]) (n := 5) (Nat.le_of_ble_eq_true rfl)
  rw [lg_entry_eq]
  generalize (lg_sl ([.ref (ad 7), .int x, .int pt, .ref oa]) ++ List.replicate (5 - (lg_sl ([.ref (ad 7), .int x, .int pt, .ref oa])).length) Slot.unset).toArray = ls at hl ⊢
  obtain ⟨ohq1, hq1⟩ : ∃ o9, idx P.rows x = o9 := ⟨_, rfl⟩
  cases ohq1 with
  | none =>
    have hk9 : kSh P.rows x pt = 1 := by simp only [kSh, hq1]
    have hl : lv_has ls 5 [(0, .ref (ad 7)), (1, .int x), (2, .int pt), (3, .ref oa)] := hl
    have eO : oU (kSh P.rows x pt) o (ltM (duL P.K P.L T ((idx P.rows x).getD 0) 0 (liM P.K P.rin ((idx P.rows x).getD 0)) 0) T.d pt) = o := by rw [oU, if_neg (by rw [hk9]; decide)]
    refine lv_aload_n hx hb dL_dual_0 rfl (lv_at hl 3 rfl) ?_
    refine lv_iconst (v := nI 0) hx hb dL_dual_1 (by decide) ?_
    refine lv_aload_n hx hb dL_dual_2 rfl (lv_at hl 0 rfl) ?_
    refine lv_iload_n hx hb dL_dual_3 rfl (lv_at hl 1 rfl) ?_
    refine lv_iload_n hx hb dL_dual_4 rfl (lv_at hl 2 rfl) ?_
    refine tx_call (vx_runV (As := [.int x, .int pt]) (rest := [.int (nI 0), .ref oa]) ⟨hx, hb, hml, hown, hta⟩ (t_P_dual_I l hlt dC dI ad k P F T x pt hro hq1) (cwV 2 hta (gV m_462 m_463 m_464 m_1 m_465) rfl rfl rfl (by decide +kernel) ⟨Nat.le_of_ble_eq_true rfl, Nat.le_of_ble_eq_true rfl⟩) (td_V hX hss hzz (hK.sub [1, 2, 3, 4, 5, 6, 7, 8, 9, 10] rfl) (hP.sub [1, 2, 3, 4, 5, 6, 7, 8, 9, 10, 11, 12] rfl) (ci := 1) (q0 := 0) rfl rfl) rfl rfl hl.1 rfl (lv_room (Nat.le_of_ble_eq_true rfl)) dL_dual_5 ⟨Nat.le_of_ble_eq_true rfl, Nat.le_of_ble_eq_true rfl⟩) (fun ce q9 H1 k1 k2 k3 k4 k5 => ?_)
    have hP1 := hP_new hP k2
    refine vx_catch (E := eI) (name := eI) (pc := 5) (ls := ls) hown [] { startPc := 0, endPc := 9, handlerPc := 12, catchType := 25 } [{ startPc := 0, endPc := 9, handlerPc := 16, catchType := 15 }] (htb.trans rfl) (fun z hz => nomatch hz) (by decide) (by decide) (hta _ m_271) (va_Nw.use rfl (hss.2.1 (.castable eI eI) (by decide))) k3 k4 k5 ?_
    refine lv_astore (lv' := [(4, .ref q9), (0, .ref (ad 7)), (1, .int x), (2, .int pt), (3, .ref oa)]) hx hb dL_dual_12 hl (by decide) rfl (fun ls hl => ?_)
    refine lv_iconst (v := nI 1) hx hb dL_dual_14 (by decide) ?_
    exact vx_ret (W.iret (v := nI 1) hx hb hr (fun t ht hW => ⟨by rw [hk9], by rw [ht, eO]; exact hP1, by rw [ht]; exact k1, fun q h _ => by rw [ht]; exact k2 q h⟩) (fun q h => nomatch h) dL_dual_15)
  | some r =>
    obtain ⟨hr9, rfl⟩ := idx_some hq1
    by_cases h1 : pt = 0 ∨ pt = 1
    · have hk9 : kSh P.rows (nI r) pt = 0 := by simp only [kSh, hq1]; rw [if_pos h1]
      have hl : lv_has ls 5 [(0, .ref (ad 7)), (1, .int (nI r)), (2, .int pt), (3, .ref oa)] := hl
      have eO : oU (kSh P.rows (nI r) pt) o (ltM (duL P.K P.L T ((idx P.rows (nI r)).getD 0) 0 (liM P.K P.rin ((idx P.rows (nI r)).getD 0)) 0) T.d pt) = vp_updL o 0 (ltM (duL P.K P.L T r 0 (liM P.K P.rin r) 0) T.d pt) := by rw [oU, if_pos hk9]; rw [hq1]; rfl
      refine lv_aload_n hx hb dL_dual_0 rfl (lv_at hl 3 rfl) ?_
      refine lv_iconst (v := nI 0) hx hb dL_dual_1 (by decide) ?_
      refine lv_aload_n hx hb dL_dual_2 rfl (lv_at hl 0 rfl) ?_
      refine lv_iload_n hx hb dL_dual_3 rfl (lv_at hl 1 rfl) ?_
      refine lv_iload_n hx hb dL_dual_4 rfl (lv_at hl 2 rfl) ?_
      refine rd_call (va_runV (As := [.int (nI r), .int pt]) (rest := [.int (nI 0), .ref oa]) ⟨hx, hb, hml, hown, hta⟩ (c_P_dual l dC dI ad k P F T r pt hro hr9 (by omega) hw h1) (cwV 2 hta (gV m_462 m_463 m_464 m_1 m_465) rfl rfl rfl (by decide +kernel) ⟨Nat.le_of_ble_eq_true rfl, Nat.le_of_ble_eq_true rfl⟩) (rd_V nW_ok hX (hK.sub [1, 2, 3, 4, 5, 6, 7, 8, 9, 10] rfl) (hP.sub [1, 2, 3, 4, 5, 6, 7, 8, 9, 10, 11, 12] rfl) (ci := 1) (q0 := 0) rfl rfl) rfl rfl hl.1 rfl (lv_room (Nat.le_of_ble_eq_true rfl)) dL_dual_5 ⟨Nat.zero_le _, Nat.zero_le _⟩) ?_
      refine W.eq (g2 := F0 m 8 ls [.long (ltM (duL P.K P.L T r 0 (liM P.K P.rin r) 0) T.d pt), .int (nI 0), .ref oa]) rfl ?_
      refine na_last hx hb hK hP hD hS 0 0 rfl rfl (i := 0) (x := ltM (duL P.K P.L T r 0 (liM P.K P.rin r) 0) T.d pt) (by omega) (by decide) dL_dual_8 (fun H locs hP hD hS => ?_)
      have hP : va_P (dC, dI) vwCl (OW oa ko (vp_updL o 0 (ltM (duL P.K P.L T r 0 (liM P.K P.rin r) 0) T.d pt)) ++ (PW ad k P ++ (FW ad k F ++ TW ad k T))) H := hP
      have hD : va_D A (OW oa ko (vp_updL o 0 (ltM (duL P.K P.L T r 0 (liM P.K P.rin r) 0) T.d pt)) ++ (PW ad k P ++ (FW ad k F ++ TW ad k T))) := hD
      refine lv_goto (tgt := 20) hx hb dL_dual_9 (by decide) ?_
      refine lv_iconst (v := nI 0) hx hb dL_dual_20 (by decide) ?_
      refine W.widen (k := 1) (n := 6) (Nat.zero_le _) (Nat.zero_le _) ?_
      exact vx_ret (W.iret (v := nI 0) hx hb hr (fun t ht hW => ⟨by rw [hk9], by rw [ht, eO]; exact hP, hS.F ht⟩) hS.2.2 dL_dual_21)
    · have hk9 : kSh P.rows (nI r) pt = 2 := by simp only [kSh, hq1]; rw [if_neg h1]
      have hl : lv_has ls 5 [(0, .ref (ad 7)), (1, .int (nI r)), (2, .int pt), (3, .ref oa)] := hl
      have eO : oU (kSh P.rows (nI r) pt) o (ltM (duL P.K P.L T ((idx P.rows (nI r)).getD 0) 0 (liM P.K P.rin ((idx P.rows (nI r)).getD 0)) 0) T.d pt) = o := by rw [oU, if_neg (by rw [hk9]; decide)]
      refine lv_aload_n hx hb dL_dual_0 rfl (lv_at hl 3 rfl) ?_
      refine lv_iconst (v := nI 0) hx hb dL_dual_1 (by decide) ?_
      refine lv_aload_n hx hb dL_dual_2 rfl (lv_at hl 0 rfl) ?_
      refine lv_iload_n hx hb dL_dual_3 rfl (lv_at hl 1 rfl) ?_
      refine lv_iload_n hx hb dL_dual_4 rfl (lv_at hl 2 rfl) ?_
      refine tx_call (vx_runV (As := [.int (nI r), .int pt]) (rest := [.int (nI 0), .ref oa]) ⟨hx, hb, hml, hown, hta⟩ (t_P_dual_A l hlt dC dI ad k P F T r pt hro hr9 h1) (cwV 2 hta (gV m_462 m_463 m_464 m_1 m_465) rfl rfl rfl (by decide +kernel) ⟨Nat.le_of_ble_eq_true rfl, Nat.le_of_ble_eq_true rfl⟩) (td_V hX hss hzz (hK.sub [1, 2, 3, 4, 5, 6, 7, 8, 9, 10] rfl) (hP.sub [1, 2, 3, 4, 5, 6, 7, 8, 9, 10, 11, 12] rfl) (ci := 1) (q0 := 0) rfl rfl) rfl rfl hl.1 rfl (lv_room (Nat.le_of_ble_eq_true rfl)) dL_dual_5 ⟨Nat.le_of_ble_eq_true rfl, Nat.le_of_ble_eq_true rfl⟩) (fun ce q9 H1 k1 k2 k3 k4 k5 => ?_)
      have hP1 := hP_new hP k2
      refine vx_catch (E := eA) (name := eA) (pc := 5) (ls := ls) hown [{ startPc := 0, endPc := 9, handlerPc := 12, catchType := 25 }] { startPc := 0, endPc := 9, handlerPc := 16, catchType := 15 } [] (htb.trans rfl) (fun z hz => by
          simp only [List.mem_cons, List.not_mem_nil, or_false] at hz
          subst hz
          exact Or.inr ⟨by decide, eI, hta _ m_271, hss.2.2 (eA, eI) (by decide)⟩) (by decide) (by decide) (hta _ m_146) (va_Nw.use rfl (hss.2.1 (.castable eA eA) (by decide))) k3 k4 k5 ?_
      refine lv_astore (lv' := [(4, .ref q9), (0, .ref (ad 7)), (1, .int (nI r)), (2, .int pt), (3, .ref oa)]) hx hb dL_dual_16 hl (by decide) rfl (fun ls hl => ?_)
      refine lv_iconst (v := nI 2) hx hb dL_dual_18 (by decide) ?_
      exact vx_ret (W.iret (v := nI 2) hx hb hr (fun t ht hW => ⟨by rw [hk9], by rw [ht, eO]; exact hP1, by rw [ht]; exact k1, fun q h _ => by rw [ht]; exact k2 q h⟩) (fun q h => nomatch h) dL_dual_19)

set_option maxHeartbeats 4000000 in
set_option maxRecDepth 100000 in
theorem h_L_factorOf (l : Launch) (hlt : l.stackTraces = false) (dC : Nat → ClassId) (dI : Nat → Nat → Nat) (ad : Nat → Nat) (k : Nat → ClassId) (oa : Nat) (ko : ClassId) (o : Nat → Int64) (P : PS) (F : Nat → Int32) (T : TS) (sz : Nat) (x pt : Int32) (hw : T.w ≤ 12) (hh : T.h ≤ 24) (hro : P.rows ≤ 12) (hri : P.rin ≤ P.rows) : vx_Met l yL_factorOf wL_factorOf ({ frames := 8, cells := 1, slots := 6, locals := 150 }) (hPc [.ref (ad 7), .int x, .int pt, .ref oa] sz (dC, dI) vwCl (OW oa ko o ++ (PW ad k P ++ (FW ad k F ++ TW ad k T))) (OQ ko ++ (PK k ++ (FK k ++ TK k)))) (wQ (some (.int (nI (kFo P x pt)))) (dC, dI) vwCl (OW oa ko (oU (kFo P x pt) o (ltM (foL P.K P.L T (lvM T 1 T.h none) ((idx P.rows x).getD 0) 0 (liM P.K P.rin ((idx P.rows x).getD 0)) 0) T.d pt)) ++ (PW ad k P ++ (FW ad k F ++ TW ad k T))) (va_A (OW oa ko o ++ (PW ad k P ++ (FW ad k F ++ TW ad k T))) sz)) (fun _ _ _ => False) 1 6 (va_A (OW oa ko o ++ (PW ad k P ++ (FW ad k F ++ TW ad k T))) sz) := by
  refine vx_ofWH (cc := bL_factorOf) (maxL := 5) (ret := (some .int)) (by decide) rfl ?_
  intro p e s m args below meth c s₁ B hml hv
  obtain ⟨rfl, hsz, hP, hK, hD0, hX, hss, hzz⟩ := hv
  have hx := B.exec
  have hb := B.bytes
  have hr := B.returns
  have hts := atoms_spec (ws := wL_factorOf) B.pre
  have hta : ∀ w ∈ AW, w.before _ s = true := fun w h => hts w (List.mem_cons_of_mem _ h)
  have hown : s.vm.findClass RL = some m.cls := findClass_of_methodNamed B.named
  have hlocks := B.notSynchronized
  have htb := vx_table (x := yL_factorOf) B (hts _ List.mem_cons_self)
  subst hsz
  have hD := hD0.self (sz := s.heap.size)
  generalize hAe : va_A (OW oa ko o ++ (PW ad k P ++ (FW ad k F ++ TW ad k T))) s.heap.size = A at hD ⊢
  have hA : ∀ q : Nat, s.heap.size ≤ q → A q := fun q h => by rw [← hAe]; exact Or.inr h
  have hS : va_S A s.heap s.heap [] := va_S.rf
  have hl := lv_entry ([.ref (ad 7), .int x, .int pt, .ref oa]) (n := 5) (Nat.le_of_ble_eq_true rfl)
  rw [lg_entry_eq]
  generalize (lg_sl ([.ref (ad 7), .int x, .int pt, .ref oa]) ++ List.replicate (5 - (lg_sl ([.ref (ad 7), .int x, .int pt, .ref oa])).length) Slot.unset).toArray = ls at hl ⊢
  obtain ⟨ohq1, hq1⟩ : ∃ o9, idx P.rows x = o9 := ⟨_, rfl⟩
  cases ohq1 with
  | none =>
    have hk9 : kFo P x pt = 1 := by simp only [kFo, hq1]
    have hl : lv_has ls 5 [(0, .ref (ad 7)), (1, .int x), (2, .int pt), (3, .ref oa)] := hl
    have eO : oU (kFo P x pt) o (ltM (foL P.K P.L T (lvM T 1 T.h none) ((idx P.rows x).getD 0) 0 (liM P.K P.rin ((idx P.rows x).getD 0)) 0) T.d pt) = o := by rw [oU, if_neg (by rw [hk9]; decide)]
    refine lv_aload_n hx hb dL_factorOf_0 rfl (lv_at hl 3 rfl) ?_
    refine lv_iconst (v := nI 0) hx hb dL_factorOf_1 (by decide) ?_
    refine lv_aload_n hx hb dL_factorOf_2 rfl (lv_at hl 0 rfl) ?_
    refine lv_iload_n hx hb dL_factorOf_3 rfl (lv_at hl 1 rfl) ?_
    refine lv_iload_n hx hb dL_factorOf_4 rfl (lv_at hl 2 rfl) ?_
    refine tx_call (vx_runV (As := [.int x, .int pt]) (rest := [.int (nI 0), .ref oa]) ⟨hx, hb, hml, hown, hta⟩ (t_P_factorOf_I l hlt dC dI ad k P F T x pt hro hq1) (cwV 2 hta (gV m_477 m_478 m_479 m_1 m_480) rfl rfl rfl (by decide +kernel) ⟨Nat.le_of_ble_eq_true rfl, Nat.le_of_ble_eq_true rfl⟩) (td_V hX hss hzz (hK.sub [1, 2, 3, 4, 5, 6, 7, 8, 9, 10] rfl) (hP.sub [1, 2, 3, 4, 5, 6, 7, 8, 9, 10, 11, 12] rfl) (ci := 1) (q0 := 0) rfl rfl) rfl rfl hl.1 rfl (lv_room (Nat.le_of_ble_eq_true rfl)) dL_factorOf_5 ⟨Nat.le_of_ble_eq_true rfl, Nat.le_of_ble_eq_true rfl⟩) (fun ce q9 H1 k1 k2 k3 k4 k5 => ?_)
    have hP1 := hP_new hP k2
    refine vx_catch (E := eI) (name := eI) (pc := 5) (ls := ls) hown [] { startPc := 0, endPc := 9, handlerPc := 12, catchType := 25 } [{ startPc := 0, endPc := 9, handlerPc := 16, catchType := 13 }, { startPc := 0, endPc := 9, handlerPc := 20, catchType := 15 }] (htb.trans rfl) (fun z hz => nomatch hz) (by decide) (by decide) (hta _ m_271) (va_Nw.use rfl (hss.2.1 (.castable eI eI) (by decide))) k3 k4 k5 ?_
    refine lv_astore (lv' := [(4, .ref q9), (0, .ref (ad 7)), (1, .int x), (2, .int pt), (3, .ref oa)]) hx hb dL_factorOf_12 hl (by decide) rfl (fun ls hl => ?_)
    refine lv_iconst (v := nI 1) hx hb dL_factorOf_14 (by decide) ?_
    exact vx_ret (W.iret (v := nI 1) hx hb hr (fun t ht hW => ⟨by rw [hk9], by rw [ht, eO]; exact hP1, by rw [ht]; exact k1, fun q h _ => by rw [ht]; exact k2 q h⟩) (fun q h => nomatch h) dL_factorOf_15)
  | some r =>
    obtain ⟨hr9, rfl⟩ := idx_some hq1
    by_cases h2 : P.lat = 1
    · by_cases h1 : pt = 0 ∨ pt = 1
      · have hk9 : kFo P (nI r) pt = 0 := by simp only [kFo, hq1]; rw [if_pos h2, if_pos h1]
        have hl : lv_has ls 5 [(0, .ref (ad 7)), (1, .int (nI r)), (2, .int pt), (3, .ref oa)] := hl
        have eO : oU (kFo P (nI r) pt) o (ltM (foL P.K P.L T (lvM T 1 T.h none) ((idx P.rows (nI r)).getD 0) 0 (liM P.K P.rin ((idx P.rows (nI r)).getD 0)) 0) T.d pt) = vp_updL o 0 (ltM (foL P.K P.L T (lvM T 1 T.h none) r 0 (liM P.K P.rin r) 0) T.d pt) := by rw [oU, if_pos hk9]; rw [hq1]; rfl
        refine lv_aload_n hx hb dL_factorOf_0 rfl (lv_at hl 3 rfl) ?_
        refine lv_iconst (v := nI 0) hx hb dL_factorOf_1 (by decide) ?_
        refine lv_aload_n hx hb dL_factorOf_2 rfl (lv_at hl 0 rfl) ?_
        refine lv_iload_n hx hb dL_factorOf_3 rfl (lv_at hl 1 rfl) ?_
        refine lv_iload_n hx hb dL_factorOf_4 rfl (lv_at hl 2 rfl) ?_
        refine rd_call (va_runV (As := [.int (nI r), .int pt]) (rest := [.int (nI 0), .ref oa]) ⟨hx, hb, hml, hown, hta⟩ (c_P_factorOf l dC dI ad k P F T r pt hro hr9 (by omega) hw hh h2 h1) (cwV 2 hta (gV m_477 m_478 m_479 m_1 m_480) rfl rfl rfl (by decide +kernel) ⟨Nat.le_of_ble_eq_true rfl, Nat.le_of_ble_eq_true rfl⟩) (rd_V nW_ok hX (hK.sub [1, 2, 3, 4, 5, 6, 7, 8, 9, 10] rfl) (hP.sub [1, 2, 3, 4, 5, 6, 7, 8, 9, 10, 11, 12] rfl) (ci := 1) (q0 := 0) rfl rfl) rfl rfl hl.1 rfl (lv_room (Nat.le_of_ble_eq_true rfl)) dL_factorOf_5 ⟨Nat.zero_le _, Nat.zero_le _⟩) ?_
        refine W.eq (g2 := F0 m 8 ls [.long (ltM (foL P.K P.L T (lvM T 1 T.h none) r 0 (liM P.K P.rin r) 0) T.d pt), .int (nI 0), .ref oa]) rfl ?_
        refine na_last hx hb hK hP hD hS 0 0 rfl rfl (i := 0) (x := ltM (foL P.K P.L T (lvM T 1 T.h none) r 0 (liM P.K P.rin r) 0) T.d pt) (by omega) (by decide) dL_factorOf_8 (fun H locs hP hD hS => ?_)
        have hP : va_P (dC, dI) vwCl (OW oa ko (vp_updL o 0 (ltM (foL P.K P.L T (lvM T 1 T.h none) r 0 (liM P.K P.rin r) 0) T.d pt)) ++ (PW ad k P ++ (FW ad k F ++ TW ad k T))) H := hP
        have hD : va_D A (OW oa ko (vp_updL o 0 (ltM (foL P.K P.L T (lvM T 1 T.h none) r 0 (liM P.K P.rin r) 0) T.d pt)) ++ (PW ad k P ++ (FW ad k F ++ TW ad k T))) := hD
        refine lv_goto (tgt := 24) hx hb dL_factorOf_9 (by decide) ?_
        refine lv_iconst (v := nI 0) hx hb dL_factorOf_24 (by decide) ?_
        refine W.widen (k := 1) (n := 6) (Nat.zero_le _) (Nat.zero_le _) ?_
        exact vx_ret (W.iret (v := nI 0) hx hb hr (fun t ht hW => ⟨by rw [hk9], by rw [ht, eO]; exact hP, hS.F ht⟩) hS.2.2 dL_factorOf_25)
      · have hk9 : kFo P (nI r) pt = 3 := by simp only [kFo, hq1]; rw [if_pos h2, if_neg h1]
        have hl : lv_has ls 5 [(0, .ref (ad 7)), (1, .int (nI r)), (2, .int pt), (3, .ref oa)] := hl
        have eO : oU (kFo P (nI r) pt) o (ltM (foL P.K P.L T (lvM T 1 T.h none) ((idx P.rows (nI r)).getD 0) 0 (liM P.K P.rin ((idx P.rows (nI r)).getD 0)) 0) T.d pt) = o := by rw [oU, if_neg (by rw [hk9]; decide)]
        refine lv_aload_n hx hb dL_factorOf_0 rfl (lv_at hl 3 rfl) ?_
        refine lv_iconst (v := nI 0) hx hb dL_factorOf_1 (by decide) ?_
        refine lv_aload_n hx hb dL_factorOf_2 rfl (lv_at hl 0 rfl) ?_
        refine lv_iload_n hx hb dL_factorOf_3 rfl (lv_at hl 1 rfl) ?_
        refine lv_iload_n hx hb dL_factorOf_4 rfl (lv_at hl 2 rfl) ?_
        refine tx_call (vx_runV (As := [.int (nI r), .int pt]) (rest := [.int (nI 0), .ref oa]) ⟨hx, hb, hml, hown, hta⟩ (t_P_factorOf_A l hlt dC dI ad k P F T r pt hro hr9 h2 h1) (cwV 2 hta (gV m_477 m_478 m_479 m_1 m_480) rfl rfl rfl (by decide +kernel) ⟨Nat.le_of_ble_eq_true rfl, Nat.le_of_ble_eq_true rfl⟩) (td_V hX hss hzz (hK.sub [1, 2, 3, 4, 5, 6, 7, 8, 9, 10] rfl) (hP.sub [1, 2, 3, 4, 5, 6, 7, 8, 9, 10, 11, 12] rfl) (ci := 1) (q0 := 0) rfl rfl) rfl rfl hl.1 rfl (lv_room (Nat.le_of_ble_eq_true rfl)) dL_factorOf_5 ⟨Nat.le_of_ble_eq_true rfl, Nat.le_of_ble_eq_true rfl⟩) (fun ce q9 H1 k1 k2 k3 k4 k5 => ?_)
        have hP1 := hP_new hP k2
        refine vx_catch (E := eA) (name := eA) (pc := 5) (ls := ls) hown [{ startPc := 0, endPc := 9, handlerPc := 12, catchType := 25 }, { startPc := 0, endPc := 9, handlerPc := 16, catchType := 13 }] { startPc := 0, endPc := 9, handlerPc := 20, catchType := 15 } [] (htb.trans rfl) (fun z hz => by
            simp only [List.mem_cons, List.not_mem_nil, or_false] at hz
            rcases hz with rfl | rfl
            · exact Or.inr ⟨by decide, eI, hta _ m_271, hss.2.2 (eA, eI) (by decide)⟩
            · exact Or.inr ⟨by decide, eS, hta _ m_145, hss.2.2 (eA, eS) (by decide)⟩) (by decide) (by decide) (hta _ m_146) (va_Nw.use rfl (hss.2.1 (.castable eA eA) (by decide))) k3 k4 k5 ?_
        refine lv_astore (lv' := [(4, .ref q9), (0, .ref (ad 7)), (1, .int (nI r)), (2, .int pt), (3, .ref oa)]) hx hb dL_factorOf_20 hl (by decide) rfl (fun ls hl => ?_)
        refine lv_iconst (v := nI 3) hx hb dL_factorOf_22 (by decide) ?_
        exact vx_ret (W.iret (v := nI 3) hx hb hr (fun t ht hW => ⟨by rw [hk9], by rw [ht, eO]; exact hP1, by rw [ht]; exact k1, fun q h _ => by rw [ht]; exact k2 q h⟩) (fun q h => nomatch h) dL_factorOf_23)
    · have hk9 : kFo P (nI r) pt = 2 := by simp only [kFo, hq1]; rw [if_neg h2]
      have hl : lv_has ls 5 [(0, .ref (ad 7)), (1, .int (nI r)), (2, .int pt), (3, .ref oa)] := hl
      have eO : oU (kFo P (nI r) pt) o (ltM (foL P.K P.L T (lvM T 1 T.h none) ((idx P.rows (nI r)).getD 0) 0 (liM P.K P.rin ((idx P.rows (nI r)).getD 0)) 0) T.d pt) = o := by rw [oU, if_neg (by rw [hk9]; decide)]
      refine lv_aload_n hx hb dL_factorOf_0 rfl (lv_at hl 3 rfl) ?_
      refine lv_iconst (v := nI 0) hx hb dL_factorOf_1 (by decide) ?_
      refine lv_aload_n hx hb dL_factorOf_2 rfl (lv_at hl 0 rfl) ?_
      refine lv_iload_n hx hb dL_factorOf_3 rfl (lv_at hl 1 rfl) ?_
      refine lv_iload_n hx hb dL_factorOf_4 rfl (lv_at hl 2 rfl) ?_
      refine tx_call (vx_runV (As := [.int (nI r), .int pt]) (rest := [.int (nI 0), .ref oa]) ⟨hx, hb, hml, hown, hta⟩ (t_P_factorOf_S l hlt dC dI ad k P F T r pt hro hr9 h2) (cwV 2 hta (gV m_477 m_478 m_479 m_1 m_480) rfl rfl rfl (by decide +kernel) ⟨Nat.le_of_ble_eq_true rfl, Nat.le_of_ble_eq_true rfl⟩) (td_V hX hss hzz (hK.sub [1, 2, 3, 4, 5, 6, 7, 8, 9, 10] rfl) (hP.sub [1, 2, 3, 4, 5, 6, 7, 8, 9, 10, 11, 12] rfl) (ci := 1) (q0 := 0) rfl rfl) rfl rfl hl.1 rfl (lv_room (Nat.le_of_ble_eq_true rfl)) dL_factorOf_5 ⟨Nat.le_of_ble_eq_true rfl, Nat.le_of_ble_eq_true rfl⟩) (fun ce q9 H1 k1 k2 k3 k4 k5 => ?_)
      have hP1 := hP_new hP k2
      refine vx_catch (E := eS) (name := eS) (pc := 5) (ls := ls) hown [{ startPc := 0, endPc := 9, handlerPc := 12, catchType := 25 }] { startPc := 0, endPc := 9, handlerPc := 16, catchType := 13 } [{ startPc := 0, endPc := 9, handlerPc := 20, catchType := 15 }] (htb.trans rfl) (fun z hz => by
          simp only [List.mem_cons, List.not_mem_nil, or_false] at hz
          subst hz
          exact Or.inr ⟨by decide, eI, hta _ m_271, hss.2.2 (eS, eI) (by decide)⟩) (by decide) (by decide) (hta _ m_145) (va_Nw.use rfl (hss.2.1 (.castable eS eS) (by decide))) k3 k4 k5 ?_
      refine lv_astore (lv' := [(4, .ref q9), (0, .ref (ad 7)), (1, .int (nI r)), (2, .int pt), (3, .ref oa)]) hx hb dL_factorOf_16 hl (by decide) rfl (fun ls hl => ?_)
      refine lv_iconst (v := nI 2) hx hb dL_factorOf_18 (by decide) ?_
      exact vx_ret (W.iret (v := nI 2) hx hb hr (fun t ht hW => ⟨by rw [hk9], by rw [ht, eO]; exact hP1, by rw [ht]; exact k1, fun q h _ => by rw [ht]; exact k2 q h⟩) (fun q h => nomatch h) dL_factorOf_19)
