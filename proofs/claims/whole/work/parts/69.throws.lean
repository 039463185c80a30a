set_option maxHeartbeats 4000000 in
set_option maxRecDepth 100000 in
theorem t_P_needColumn_I (l : Launch) (hlt : l.stackTraces = false) (dC : Nat → ClassId) (dI : Nat → Nat → Nat) (ad : Nat → Nat) (k : Nat → ClassId) (P : PS) (F : Nat → Int32) (T : TS) (x : Int32) (hw : T.w ≤ 12) (hn : idx T.w x = none) : vx_Met l yP_needColumn wP_needColumn ({ frames := 6, cells := 1, slots := 6, locals := 82 }) (tPc [.ref (ad 7), .int x] (dC, dI) vwCl (PW ad k P ++ (FW ad k F ++ TW ad k T)) (PK k ++ (FK k ++ TK k))) (fun _ _ _ _ => False) (xX (some eI)) 1 6 (fun _ => False) := by
  refine vx_ofW (cc := bP_needColumn) (maxL := 2) (ret := none) (by decide) rfl ?_
  intro p e s m args below meth c s₁ B hml hout hv
  obtain ⟨rfl, hP, hK, hX, hss, hzz⟩ := hv
  have hx := B.exec
  have hb := B.bytes
  have hr := B.returns
  have hts := atoms_spec (ws := wP_needColumn) B.pre
  have hta : ∀ w ∈ AW, w.before _ s = true := fun w h => hts w (List.mem_cons_of_mem _ h)
  have hown : s.vm.findClass RP = some m.cls := findClass_of_methodNamed B.named
  have hlocks := B.notSynchronized
  have hl := lv_entry ([.ref (ad 7), .int x]) (n := 2) (Nat.le_of_ble_eq_true rfl)
  rw [lg_entry_eq]
  generalize (lg_sl ([.ref (ad 7), .int x]) ++ List.replicate (2 - (lg_sl ([.ref (ad 7), .int x])).length) Slot.unset).toArray = ls at hl ⊢
  have hl : lv_has ls 2 [(0, .ref (ad 7)), (1, .int x)] := hl
  refine lv_iload_n hx hb dP_needColumn_0 rfl (lv_at hl 1 rfl) ?_
  refine lv_if_lt (tgt := 15) hx hb dP_needColumn_1 (by decide) (fun h1 => ?_) (fun h1 => ?_)
  · obtain ⟨sa, hsa⟩ := hss.1 (180, "no such column") (by decide)
    exact vx_throwS (own := RP) (cls := eI) (text := "no such column") (names := chN) (ik := 178) (is := 180) (ic := 182) (sa := sa) (A := fun _ => False) hx hb hlt hown fit_I ch_fit (hta _ m_280) (hta _ m_10) hsa (vx_hat (fun w h => hta w (at_I w h)) bt_I (fun w h => va_Nw.use (tB_on h) (hss.2.1 w h))) ot_I hzz.1 hzz.2 va_S.rf (hl.1.trans hml.symm) dP_needColumn_15 dP_needColumn_18 dP_needColumn_19 dP_needColumn_21 dP_needColumn_24 (fun x h => (hout x h).elim) (Nat.le_of_ble_eq_true rfl) (Nat.le_of_ble_eq_true rfl) (Nat.le_of_ble_eq_true rfl) (Nat.le_of_ble_eq_true rfl) hlocks (fun t _ h1 h2 => ⟨rfl, h1, h2⟩) (fun z h => nomatch h) (Nat.le_refl _) (Nat.le_refl _)
  · refine lv_iload_n hx hb dP_needColumn_4 rfl (lv_at hl 1 rfl) ?_
    refine lv_aload_n hx hb dP_needColumn_5 rfl (lv_at hl 0 rfl) ?_
    refine va_get (D := (dC, dI)) (ci := 1) (v := .ref (ad 0)) (C := RP) (T := FP) (N := 12) hx hb hta iP hown hK hP 0 rfl rfl 6 (by decide) (hta _ m_69) (fun _ h9 => h9) rfl dP_needColumn_6 ?_
    refine va_getN (D := (dC, dI)) (ci := 0) (v := .int (nI T.w)) (C := RT) (T := FT) (N := 8) hx hb hta iT hown hK hP 6 rfl rfl 5 (by decide) (va_Nw.use rfl (hX _ nw_2)) (fun _ h9 => h9) rfl dP_needColumn_9 ?_
    refine lv_icmp_lt (tgt := 25) hx hb dP_needColumn_12 (by decide) (fun h2 => ?_) (fun h2 => ?_)
    · exact (idx_nn hn (by omega) h1 h2).elim
    · obtain ⟨sa, hsa⟩ := hss.1 (180, "no such column") (by decide)
      exact vx_throwS (own := RP) (cls := eI) (text := "no such column") (names := chN) (ik := 178) (is := 180) (ic := 182) (sa := sa) (A := fun _ => False) hx hb hlt hown fit_I ch_fit (hta _ m_280) (hta _ m_10) hsa (vx_hat (fun w h => hta w (at_I w h)) bt_I (fun w h => va_Nw.use (tB_on h) (hss.2.1 w h))) ot_I hzz.1 hzz.2 va_S.rf (hl.1.trans hml.symm) dP_needColumn_15 dP_needColumn_18 dP_needColumn_19 dP_needColumn_21 dP_needColumn_24 (fun x h => (hout x h).elim) (Nat.le_of_ble_eq_true rfl) (Nat.le_of_ble_eq_true rfl) (Nat.le_of_ble_eq_true rfl) (Nat.le_of_ble_eq_true rfl) hlocks (fun t _ h1 h2 => ⟨rfl, h1, h2⟩) (fun z h => nomatch h) (Nat.le_refl _) (Nat.le_refl _)

set_option maxHeartbeats 4000000 in
set_option maxRecDepth 100000 in
theorem t_P_needRow_I (l : Launch) (hlt : l.stackTraces = false) (dC : Nat → ClassId) (dI : Nat → Nat → Nat) (ad : Nat → Nat) (k : Nat → ClassId) (P : PS) (F : Nat → Int32) (T : TS) (x : Int32) (hro : P.rows ≤ 12) (hn : idx P.rows x = none) : vx_Met l yP_needRow wP_needRow ({ frames := 6, cells := 1, slots := 6, locals := 82 }) (tPc [.ref (ad 7), .int x] (dC, dI) vwCl (PW ad k P ++ (FW ad k F ++ TW ad k T)) (PK k ++ (FK k ++ TK k))) (fun _ _ _ _ => False) (xX (some eI)) 1 6 (fun _ => False) := by
  refine vx_ofW (cc := bP_needRow) (maxL := 2) (ret := none) (by decide) rfl ?_
  intro p e s m args below meth c s₁ B hml hout hv
  obtain ⟨rfl, hP, hK, hX, hss, hzz⟩ := hv
  have hx := B.exec
  have hb := B.bytes
  have hr := B.returns
  have hts := atoms_spec (ws := wP_needRow) B.pre
  have hta : ∀ w ∈ AW, w.before _ s = true := fun w h => hts w (List.mem_cons_of_mem _ h)
  have hown : s.vm.findClass RP = some m.cls := findClass_of_methodNamed B.named
  have hlocks := B.notSynchronized
  have hl := lv_entry ([.ref (ad 7), .int x]) (n := 2) (Nat.le_of_ble_eq_true rfl)
  rw [lg_entry_eq]
  generalize (lg_sl ([.ref (ad 7), .int x]) ++ List.replicate (2 - (lg_sl ([.ref (ad 7), .int x])).length) Slot.unset).toArray = ls at hl ⊢
  have hl : lv_has ls 2 [(0, .ref (ad 7)), (1, .int x)] := hl
  refine lv_iload_n hx hb dP_needRow_0 rfl (lv_at hl 1 rfl) ?_
  refine lv_if_lt (tgt := 12) hx hb dP_needRow_1 (by decide) (fun h1 => ?_) (fun h1 => ?_)
  · obtain ⟨sa, hsa⟩ := hss.1 (183, "no such row") (by decide)
    exact vx_throwS (own := RP) (cls := eI) (text := "no such row") (names := chN) (ik := 178) (is := 183) (ic := 182) (sa := sa) (A := fun _ => False) hx hb hlt hown fit_I ch_fit (hta _ m_280) (hta _ m_10) hsa (vx_hat (fun w h => hta w (at_I w h)) bt_I (fun w h => va_Nw.use (tB_on h) (hss.2.1 w h))) ot_I hzz.1 hzz.2 va_S.rf (hl.1.trans hml.symm) dP_needRow_12 dP_needRow_15 dP_needRow_16 dP_needRow_18 dP_needRow_21 (fun x h => (hout x h).elim) (Nat.le_of_ble_eq_true rfl) (Nat.le_of_ble_eq_true rfl) (Nat.le_of_ble_eq_true rfl) (Nat.le_of_ble_eq_true rfl) hlocks (fun t _ h1 h2 => ⟨rfl, h1, h2⟩) (fun z h => nomatch h) (Nat.le_refl _) (Nat.le_refl _)
  · refine lv_iload_n hx hb dP_needRow_4 rfl (lv_at hl 1 rfl) ?_
    refine lv_aload_n hx hb dP_needRow_5 rfl (lv_at hl 0 rfl) ?_
    refine va_get (D := (dC, dI)) (ci := 1) (v := .int (nI P.rows)) (C := RP) (T := FP) (N := 12) hx hb hta iP hown hK hP 0 rfl rfl 7 (by decide) (hta _ m_70) (fun _ h9 => h9) rfl dP_needRow_6 ?_
    refine lv_icmp_lt (tgt := 22) hx hb dP_needRow_9 (by decide) (fun h2 => ?_) (fun h2 => ?_)
    · exact (idx_nn hn (by omega) h1 h2).elim
    · obtain ⟨sa, hsa⟩ := hss.1 (183, "no such row") (by decide)
      exact vx_throwS (own := RP) (cls := eI) (text := "no such row") (names := chN) (ik := 178) (is := 183) (ic := 182) (sa := sa) (A := fun _ => False) hx hb hlt hown fit_I ch_fit (hta _ m_280) (hta _ m_10) hsa (vx_hat (fun w h => hta w (at_I w h)) bt_I (fun w h => va_Nw.use (tB_on h) (hss.2.1 w h))) ot_I hzz.1 hzz.2 va_S.rf (hl.1.trans hml.symm) dP_needRow_12 dP_needRow_15 dP_needRow_16 dP_needRow_18 dP_needRow_21 (fun x h => (hout x h).elim) (Nat.le_of_ble_eq_true rfl) (Nat.le_of_ble_eq_true rfl) (Nat.le_of_ble_eq_true rfl) (Nat.le_of_ble_eq_true rfl) hlocks (fun t _ h1 h2 => ⟨rfl, h1, h2⟩) (fun z h => nomatch h) (Nat.le_refl _) (Nat.le_refl _)

set_option maxHeartbeats 4000000 in
set_option maxRecDepth 100000 in
theorem t_P_needRoomForRow_S (l : Launch) (hlt : l.stackTraces = false) (dC : Nat → ClassId) (dI : Nat → Nat → Nat) (ad : Nat → Nat) (k : Nat → ClassId) (P : PS) (F : Nat → Int32) (T : TS)  (hro : P.rows ≤ 12) (hn : 12 ≤ P.rows) : vx_Met l yP_needRoomForRow wP_needRoomForRow ({ frames := 6, cells := 1, slots := 6, locals := 82 }) (tPc [.ref (ad 7)] (dC, dI) vwCl (PW ad k P ++ (FW ad k F ++ TW ad k T)) (PK k ++ (FK k ++ TK k))) (fun _ _ _ _ => False) (xX (some eS)) 1 6 (fun _ => False) := by
  refine vx_ofW (cc := bP_needRoomForRow) (maxL := 1) (ret := none) (by decide) rfl ?_
  intro p e s m args below meth c s₁ B hml hout hv
  obtain ⟨rfl, hP, hK, hX, hss, hzz⟩ := hv
  have hx := B.exec
  have hb := B.bytes
  have hr := B.returns
  have hts := atoms_spec (ws := wP_needRoomForRow) B.pre
  have hta : ∀ w ∈ AW, w.before _ s = true := fun w h => hts w (List.mem_cons_of_mem _ h)
  have hown : s.vm.findClass RP = some m.cls := findClass_of_methodNamed B.named
  have hlocks := B.notSynchronized
  have hl := lv_entry ([.ref (ad 7)]) (n := 1) (Nat.le_of_ble_eq_true rfl)
  rw [lg_entry_eq]
  generalize (lg_sl ([.ref (ad 7)]) ++ List.replicate (1 - (lg_sl ([.ref (ad 7)])).length) Slot.unset).toArray = ls at hl ⊢
  have hl : lv_has ls 1 [(0, .ref (ad 7))] := hl
  refine lv_aload_n hx hb dP_needRoomForRow_0 rfl (lv_at hl 0 rfl) ?_
  refine va_get (D := (dC, dI)) (ci := 1) (v := .int (nI P.rows)) (C := RP) (T := FP) (N := 12) hx hb hta iP hown hK hP 0 rfl rfl 7 (by decide) (hta _ m_70) (fun _ h9 => h9) rfl dP_needRoomForRow_1 ?_
  refine lv_bipush (v := nI 12) hx hb dP_needRoomForRow_4 (by decide) ?_
  refine ni_lt (tgt := 19) hx hb dP_needRoomForRow_6 (by decide) (by omega) (by omega) (fun c_1 => ?_) (fun c_1 => ?_)
  · exfalso; omega
  · obtain ⟨sa, hsa⟩ := hss.1 (185, "no more rows") (by decide)
    exact vx_throwS (own := RP) (cls := eS) (text := "no more rows") (names := chN) (ik := 65) (is := 185) (ic := 69) (sa := sa) (A := fun _ => False) hx hb hlt hown fit_S ch_fit (hta _ m_151) (hta _ m_8) hsa (vx_hat (fun w h => hta w (at_S w h)) bt_S (fun w h => va_Nw.use (tB_on h) (hss.2.1 w h))) ot_S hzz.1 hzz.2 va_S.rf (hl.1.trans hml.symm) dP_needRoomForRow_9 dP_needRoomForRow_12 dP_needRoomForRow_13 dP_needRoomForRow_15 dP_needRoomForRow_18 (fun x h => (hout x h).elim) (Nat.le_of_ble_eq_true rfl) (Nat.le_of_ble_eq_true rfl) (Nat.le_of_ble_eq_true rfl) (Nat.le_of_ble_eq_true rfl) hlocks (fun t _ h1 h2 => ⟨rfl, h1, h2⟩) (fun z h => nomatch h) (Nat.le_refl _) (Nat.le_refl _)

set_option maxHeartbeats 4000000 in
set_option maxRecDepth 100000 in
theorem t_P_needRight_A (l : Launch) (hlt : l.stackTraces = false) (dC : Nat → ClassId) (dI : Nat → Nat → Nat) (ad : Nat → Nat) (k : Nat → ClassId) (b : Int64) (hn : b < -1000000 ∨ 1000000 < b) : vx_Met l yP_needRight wP_needRight ({ frames := 6, cells := 1, slots := 6, locals := 82 }) (tPc [.long b] (dC, dI) vwCl ([]) ([])) (fun _ _ _ _ => False) (xX (some eA)) 1 6 (fun _ => False) := by
  refine vx_ofW (cc := bP_needRight) (maxL := 2) (ret := none) (by decide) rfl ?_
  intro p e s m args below meth c s₁ B hml hout hv
  obtain ⟨rfl, hP, hK, hX, hss, hzz⟩ := hv
  have hx := B.exec
  have hb := B.bytes
  have hr := B.returns
  have hts := atoms_spec (ws := wP_needRight) B.pre
  have hta : ∀ w ∈ AW, w.before _ s = true := fun w h => hts w (List.mem_cons_of_mem _ h)
  have hown : s.vm.findClass RP = some m.cls := findClass_of_methodNamed B.named
  have hlocks := B.notSynchronized
  have hl := lv_entry ([.long b]) (n := 2) (Nat.le_of_ble_eq_true rfl)
  rw [lg_entry_eq]
  generalize (lg_sl ([.long b]) ++ List.replicate (2 - (lg_sl ([.long b])).length) Slot.unset).toArray = ls at hl ⊢
  have hl : lv_has ls 2 [(0, .long b)] := hl
  refine lv_lload_n hx hb dP_needRight_0 rfl (lv_at hl 0 rfl) ?_
  refine lv_ldc2 (v := (-1000000)) hx hb hown (hta _ m_261) dP_needRight_1 ?_
  refine ll_lt (tgt := 16) hx hb dP_needRight_4 dP_needRight_5 (by decide) (fun h1 => ?_) (fun h1 => ?_)
  · obtain ⟨sa, hsa⟩ := hss.1 (191, "no such right side") (by decide)
    exact vx_throwS (own := RP) (cls := eA) (text := "no such right side") (names := chN) (ik := 74) (is := 191) (ic := 78) (sa := sa) (A := fun _ => False) hx hb hlt hown fit_A ch_fit (hta _ m_220) (hta _ m_9) hsa (vx_hat (fun w h => hta w (at_A w h)) bt_A (fun w h => va_Nw.use (tB_on h) (hss.2.1 w h))) ot_A hzz.1 hzz.2 va_S.rf (hl.1.trans hml.symm) dP_needRight_16 dP_needRight_19 dP_needRight_20 dP_needRight_22 dP_needRight_25 (fun x h => (hout x h).elim) (Nat.le_of_ble_eq_true rfl) (Nat.le_of_ble_eq_true rfl) (Nat.le_of_ble_eq_true rfl) (Nat.le_of_ble_eq_true rfl) hlocks (fun t _ h1 h2 => ⟨rfl, h1, h2⟩) (fun z h => nomatch h) (Nat.le_refl _) (Nat.le_refl _)
  · refine lv_lload_n hx hb dP_needRight_8 rfl (lv_at hl 0 rfl) ?_
    refine lv_ldc2 (v := 1000000) hx hb hown (hta _ m_262) dP_needRight_9 ?_
    refine ll_le (tgt := 26) hx hb dP_needRight_12 dP_needRight_13 (by decide) (fun h2 => ?_) (fun h2 => ?_)
    · exact (hn.elim h1 h2).elim
    · obtain ⟨sa, hsa⟩ := hss.1 (191, "no such right side") (by decide)
      exact vx_throwS (own := RP) (cls := eA) (text := "no such right side") (names := chN) (ik := 74) (is := 191) (ic := 78) (sa := sa) (A := fun _ => False) hx hb hlt hown fit_A ch_fit (hta _ m_220) (hta _ m_9) hsa (vx_hat (fun w h => hta w (at_A w h)) bt_A (fun w h => va_Nw.use (tB_on h) (hss.2.1 w h))) ot_A hzz.1 hzz.2 va_S.rf (hl.1.trans hml.symm) dP_needRight_16 dP_needRight_19 dP_needRight_20 dP_needRight_22 dP_needRight_25 (fun x h => (hout x h).elim) (Nat.le_of_ble_eq_true rfl) (Nat.le_of_ble_eq_true rfl) (Nat.le_of_ble_eq_true rfl) (Nat.le_of_ble_eq_true rfl) hlocks (fun t _ h1 h2 => ⟨rfl, h1, h2⟩) (fun z h => nomatch h) (Nat.le_refl _) (Nat.le_refl _)

set_option maxHeartbeats 4000000 in
set_option maxRecDepth 100000 in
theorem t_P_needPart_A (l : Launch) (hlt : l.stackTraces = false) (dC : Nat → ClassId) (dI : Nat → Nat → Nat) (ad : Nat → Nat) (k : Nat → ClassId) (pt : Int32) (hn : ¬ (pt = 0 ∨ pt = 1)) : vx_Met l yP_needPart wP_needPart ({ frames := 6, cells := 1, slots := 6, locals := 82 }) (tPc [.int pt] (dC, dI) vwCl ([]) ([])) (fun _ _ _ _ => False) (xX (some eA)) 1 6 (fun _ => False) := by
  refine vx_ofW (cc := bP_needPart) (maxL := 1) (ret := none) (by decide) rfl ?_
  intro p e s m args below meth c s₁ B hml hout hv
  obtain ⟨rfl, hP, hK, hX, hss, hzz⟩ := hv
  have hx := B.exec
  have hb := B.bytes
  have hr := B.returns
  have hts := atoms_spec (ws := wP_needPart) B.pre
  have hta : ∀ w ∈ AW, w.before _ s = true := fun w h => hts w (List.mem_cons_of_mem _ h)
  have hown : s.vm.findClass RP = some m.cls := findClass_of_methodNamed B.named
  have hlocks := B.notSynchronized
  have hl := lv_entry ([.int pt]) (n := 1) (Nat.le_of_ble_eq_true rfl)
  rw [lg_entry_eq]
  generalize (lg_sl ([.int pt]) ++ List.replicate (1 - (lg_sl ([.int pt])).length) Slot.unset).toArray = ls at hl ⊢
  have hl : lv_has ls 1 [(0, .int pt)] := hl
  refine lv_iload_n hx hb dP_needPart_0 rfl (lv_at hl 0 rfl) ?_
  refine lv_if_eq (tgt := 19) hx hb dP_needPart_1 (by decide) (fun h1 => ?_) (fun h1 => ?_)
  · exact (hn (Or.inl h1)).elim
  · refine lv_iload_n hx hb dP_needPart_4 rfl (lv_at hl 0 rfl) ?_
    refine lv_iconst (v := 1) hx hb dP_needPart_5 (by decide) ?_
    refine lv_icmp_eq (tgt := 19) hx hb dP_needPart_6 (by decide) (fun h2 => ?_) (fun h2 => ?_)
    · exact (hn (Or.inr h2)).elim
    · obtain ⟨sa, hsa⟩ := hss.1 (193, "no such part") (by decide)
      exact vx_throwS (own := RP) (cls := eA) (text := "no such part") (names := chN) (ik := 74) (is := 193) (ic := 78) (sa := sa) (A := fun _ => False) hx hb hlt hown fit_A ch_fit (hta _ m_220) (hta _ m_9) hsa (vx_hat (fun w h => hta w (at_A w h)) bt_A (fun w h => va_Nw.use (tB_on h) (hss.2.1 w h))) ot_A hzz.1 hzz.2 va_S.rf (hl.1.trans hml.symm) dP_needPart_9 dP_needPart_12 dP_needPart_13 dP_needPart_15 dP_needPart_18 (fun x h => (hout x h).elim) (Nat.le_of_ble_eq_true rfl) (Nat.le_of_ble_eq_true rfl) (Nat.le_of_ble_eq_true rfl) (Nat.le_of_ble_eq_true rfl) hlocks (fun t _ h1 h2 => ⟨rfl, h1, h2⟩) (fun z h => nomatch h) (Nat.le_refl _) (Nat.le_refl _)

set_option maxHeartbeats 4000000 in
set_option maxRecDepth 100000 in
theorem t_P_column_S (l : Launch) (hlt : l.stackTraces = false) (dC : Nat → ClassId) (dI : Nat → Nat → Nat) (ad : Nat → Nat) (k : Nat → ClassId) (P : PS) (F : Nat → Int32) (T : TS) (v : Int64) (hn : P.run = true ∨ 12 ≤ T.w) (hw : T.w ≤ 12) : vx_Met l yP_column wP_column ({ frames := 7, cells := 1, slots := 6, locals := 112 }) (tPc [.ref (ad 7), .long v] (dC, dI) vwCl (PW ad k P ++ (FW ad k F ++ TW ad k T)) (PK k ++ (FK k ++ TK k))) (fun _ _ _ _ => False) (xX (some eS)) 1 6 (fun _ => False) := by
  refine vx_ofW (cc := bP_column) (maxL := 3) (ret := (some .int)) (by decide) rfl ?_
  intro p e s m args below meth c s₁ B hml hout hv
  obtain ⟨rfl, hP, hK, hX, hss, hzz⟩ := hv
  have hx := B.exec
  have hb := B.bytes
  have hr := B.returns
  have hts := atoms_spec (ws := wP_column) B.pre
  have hta : ∀ w ∈ AW, w.before _ s = true := fun w h => hts w (List.mem_cons_of_mem _ h)
  have hown : s.vm.findClass RP = some m.cls := findClass_of_methodNamed B.named
  have hlocks := B.notSynchronized
  have hl := lv_entry ([.ref (ad 7), .long v]) (n := 3) (Nat.le_of_ble_eq_true rfl)
  rw [lg_entry_eq]
  generalize (lg_sl ([.ref (ad 7), .long v]) ++ List.replicate (3 - (lg_sl ([.ref (ad 7), .long v])).length) Slot.unset).toArray = ls at hl ⊢
  have hl : lv_has ls 3 [(0, .ref (ad 7)), (1, .long v)] := hl
  refine lv_aload_n hx hb dP_column_0 rfl (lv_at hl 0 rfl) ?_
  refine va_get (D := (dC, dI)) (ci := 1) (v := .int (bI P.run)) (C := RP) (T := FP) (N := 12) hx hb hta iP hown hK hP 0 rfl rfl 10 (by decide) (hta _ m_73) (fun _ h9 => h9) rfl dP_column_1 ?_
  refine lb_ne (tgt := 19) hx hb dP_column_4 (by decide) (fun h1 => ?_) (fun h1 => ?_)
  · obtain ⟨sa, hsa⟩ := hss.1 (67, "no more columns, or a run was done") (by decide)
    exact vx_throwS (own := RP) (cls := eS) (text := "no more columns, or a run was done") (names := chN) (ik := 65) (is := 67) (ic := 69) (sa := sa) (A := fun _ => False) hx hb hlt hown fit_S ch_fit (hta _ m_151) (hta _ m_8) hsa (vx_hat (fun w h => hta w (at_S w h)) bt_S (fun w h => va_Nw.use (tB_on h) (hss.2.1 w h))) ot_S hzz.1 hzz.2 va_S.rf (hl.1.trans hml.symm) dP_column_19 dP_column_22 dP_column_23 dP_column_25 dP_column_28 (fun x h => (hout x h).elim) (Nat.le_of_ble_eq_true rfl) (Nat.le_of_ble_eq_true rfl) (Nat.le_of_ble_eq_true rfl) (Nat.le_of_ble_eq_true rfl) hlocks (fun t _ h1 h2 => ⟨rfl, h1, h2⟩) (fun z h => nomatch h) (Nat.le_refl _) (Nat.le_refl _)
  · refine lv_aload_n hx hb dP_column_7 rfl (lv_at hl 0 rfl) ?_
    refine va_get (D := (dC, dI)) (ci := 1) (v := .ref (ad 0)) (C := RP) (T := FP) (N := 12) hx hb hta iP hown hK hP 0 rfl rfl 6 (by decide) (hta _ m_69) (fun _ h9 => h9) rfl dP_column_8 ?_
    refine va_getN (D := (dC, dI)) (ci := 0) (v := .int (nI T.w)) (C := RT) (T := FT) (N := 8) hx hb hta iT hown hK hP 6 rfl rfl 5 (by decide) (va_Nw.use rfl (hX _ nw_2)) (fun _ h9 => h9) rfl dP_column_11 ?_
    refine lv_bipush (v := nI 12) hx hb dP_column_14 (by decide) ?_
    refine ni_lt (tgt := 29) hx hb dP_column_16 (by decide) (by omega) (by omega) (fun h2 => ?_) (fun h2 => ?_)
    · exact absurd hn (fun z => z.elim (fun z => by rw [h1] at z; cases z) (fun z => by omega))
    · obtain ⟨sa, hsa⟩ := hss.1 (67, "no more columns, or a run was done") (by decide)
      exact vx_throwS (own := RP) (cls := eS) (text := "no more columns, or a run was done") (names := chN) (ik := 65) (is := 67) (ic := 69) (sa := sa) (A := fun _ => False) hx hb hlt hown fit_S ch_fit (hta _ m_151) (hta _ m_8) hsa (vx_hat (fun w h => hta w (at_S w h)) bt_S (fun w h => va_Nw.use (tB_on h) (hss.2.1 w h))) ot_S hzz.1 hzz.2 va_S.rf (hl.1.trans hml.symm) dP_column_19 dP_column_22 dP_column_23 dP_column_25 dP_column_28 (fun x h => (hout x h).elim) (Nat.le_of_ble_eq_true rfl) (Nat.le_of_ble_eq_true rfl) (Nat.le_of_ble_eq_true rfl) (Nat.le_of_ble_eq_true rfl) hlocks (fun t _ h1 h2 => ⟨rfl, h1, h2⟩) (fun z h => nomatch h) (Nat.le_refl _) (Nat.le_refl _)

set_option maxHeartbeats 4000000 in
set_option maxRecDepth 100000 in
theorem t_P_column_A (l : Launch) (hlt : l.stackTraces = false) (dC : Nat → ClassId) (dI : Nat → Nat → Nat) (ad : Nat → Nat) (k : Nat → ClassId) (P : PS) (F : Nat → Int32) (T : TS) (v : Int64) (hrn : P.run = false) (hw : T.w < 12) (hn : v < 0 ∨ 1000 < v) : vx_Met l yP_column wP_column ({ frames := 7, cells := 1, slots := 6, locals := 112 }) (tPc [.ref (ad 7), .long v] (dC, dI) vwCl (PW ad k P ++ (FW ad k F ++ TW ad k T)) (PK k ++ (FK k ++ TK k))) (fun _ _ _ _ => False) (xX (some eA)) 1 6 (fun _ => False) := by
  refine vx_ofW (cc := bP_column) (maxL := 3) (ret := (some .int)) (by decide) rfl ?_
  intro p e s m args below meth c s₁ B hml hout hv
  obtain ⟨rfl, hP, hK, hX, hss, hzz⟩ := hv
  have hx := B.exec
  have hb := B.bytes
  have hr := B.returns
  have hts := atoms_spec (ws := wP_column) B.pre
  have hta : ∀ w ∈ AW, w.before _ s = true := fun w h => hts w (List.mem_cons_of_mem _ h)
  have hown : s.vm.findClass RP = some m.cls := findClass_of_methodNamed B.named
  have hlocks := B.notSynchronized
  have hl := lv_entry ([.ref (ad 7), .long v]) (n := 3) (Nat.le_of_ble_eq_true rfl)
  rw [lg_entry_eq]
  generalize (lg_sl ([.ref (ad 7), .long v]) ++ List.replicate (3 - (lg_sl ([.ref (ad 7), .long v])).length) Slot.unset).toArray = ls at hl ⊢
  have hl : lv_has ls 3 [(0, .ref (ad 7)), (1, .long v)] := hl
  refine lv_aload_n hx hb dP_column_0 rfl (lv_at hl 0 rfl) ?_
  refine va_get (D := (dC, dI)) (ci := 1) (v := .int (bI P.run)) (C := RP) (T := FP) (N := 12) hx hb hta iP hown hK hP 0 rfl rfl 10 (by decide) (hta _ m_73) (fun _ h9 => h9) rfl dP_column_1 ?_
  refine lb_ne (tgt := 19) hx hb dP_column_4 (by decide) (fun h1 => ?_) (fun h1 => ?_)
  · exact absurd (hrn.symm.trans h1) (by decide)
  · refine lv_aload_n hx hb dP_column_7 rfl (lv_at hl 0 rfl) ?_
    refine va_get (D := (dC, dI)) (ci := 1) (v := .ref (ad 0)) (C := RP) (T := FP) (N := 12) hx hb hta iP hown hK hP 0 rfl rfl 6 (by decide) (hta _ m_69) (fun _ h9 => h9) rfl dP_column_8 ?_
    refine va_getN (D := (dC, dI)) (ci := 0) (v := .int (nI T.w)) (C := RT) (T := FT) (N := 8) hx hb hta iT hown hK hP 6 rfl rfl 5 (by decide) (va_Nw.use rfl (hX _ nw_2)) (fun _ h9 => h9) rfl dP_column_11 ?_
    refine lv_bipush (v := nI 12) hx hb dP_column_14 (by decide) ?_
    refine ni_lt (tgt := 29) hx hb dP_column_16 (by decide) (by omega) (by omega) (fun c_1 => ?_) (fun c_1 => ?_)
    · refine lv_lload_n hx hb dP_column_29 rfl (lv_at hl 1 rfl) ?_
      refine lv_lconst (v := 0) hx hb dP_column_30 (by decide) ?_
      refine ll_lt (tgt := 43) hx hb dP_column_31 dP_column_32 (by decide) (fun h2 => ?_) (fun h2 => ?_)
      · obtain ⟨sa, hsa⟩ := hss.1 (76, "no such cost") (by decide)
        exact vx_throwS (own := RP) (cls := eA) (text := "no such cost") (names := chN) (ik := 74) (is := 76) (ic := 78) (sa := sa) (A := fun _ => False) hx hb hlt hown fit_A ch_fit (hta _ m_220) (hta _ m_9) hsa (vx_hat (fun w h => hta w (at_A w h)) bt_A (fun w h => va_Nw.use (tB_on h) (hss.2.1 w h))) ot_A hzz.1 hzz.2 va_S.rf (hl.1.trans hml.symm) dP_column_43 dP_column_46 dP_column_47 dP_column_49 dP_column_52 (fun x h => (hout x h).elim) (Nat.le_of_ble_eq_true rfl) (Nat.le_of_ble_eq_true rfl) (Nat.le_of_ble_eq_true rfl) (Nat.le_of_ble_eq_true rfl) hlocks (fun t _ h1 h2 => ⟨rfl, h1, h2⟩) (fun z h => nomatch h) (Nat.le_refl _) (Nat.le_refl _)
      · refine lv_lload_n hx hb dP_column_35 rfl (lv_at hl 1 rfl) ?_
        refine lv_ldc2 (v := 1000) hx hb hown (hta _ m_219) dP_column_36 ?_
        refine ll_le (tgt := 53) hx hb dP_column_39 dP_column_40 (by decide) (fun h3 => ?_) (fun h3 => ?_)
        · exact (hn.elim h2 h3).elim
        · obtain ⟨sa, hsa⟩ := hss.1 (76, "no such cost") (by decide)
          exact vx_throwS (own := RP) (cls := eA) (text := "no such cost") (names := chN) (ik := 74) (is := 76) (ic := 78) (sa := sa) (A := fun _ => False) hx hb hlt hown fit_A ch_fit (hta _ m_220) (hta _ m_9) hsa (vx_hat (fun w h => hta w (at_A w h)) bt_A (fun w h => va_Nw.use (tB_on h) (hss.2.1 w h))) ot_A hzz.1 hzz.2 va_S.rf (hl.1.trans hml.symm) dP_column_43 dP_column_46 dP_column_47 dP_column_49 dP_column_52 (fun x h => (hout x h).elim) (Nat.le_of_ble_eq_true rfl) (Nat.le_of_ble_eq_true rfl) (Nat.le_of_ble_eq_true rfl) (Nat.le_of_ble_eq_true rfl) hlocks (fun t _ h1 h2 => ⟨rfl, h1, h2⟩) (fun z h => nomatch h) (Nat.le_refl _) (Nat.le_refl _)
    · exfalso; omega

set_option maxHeartbeats 4000000 in
set_option maxRecDepth 100000 in
theorem t_P_row_S (l : Launch) (hlt : l.stackTraces = false) (dC : Nat → ClassId) (dI : Nat → Nat → Nat) (ad : Nat → Nat) (k : Nat → ClassId) (P : PS) (F : Nat → Int32) (T : TS) (kd wk : Int32) (b : Int64) (hro : P.rows ≤ 12) (hn : 12 ≤ P.rows) : vx_Met l yP_row wP_row ({ frames := 7, cells := 1, slots := 6, locals := 112 }) (tPc [.ref (ad 7), .int kd, .int wk, .long b] (dC, dI) vwCl (PW ad k P ++ (FW ad k F ++ TW ad k T)) (PK k ++ (FK k ++ TK k))) (fun _ _ _ _ => False) (xX (some eS)) 1 6 (fun _ => False) := by
  refine vx_ofW (cc := bP_row) (maxL := 5) (ret := (some .int)) (by decide) rfl ?_
  intro p e s m args below meth c s₁ B hml hout hv
  obtain ⟨rfl, hP, hK, hX, hss, hzz⟩ := hv
  have hx := B.exec
  have hb := B.bytes
  have hr := B.returns
  have hts := atoms_spec (ws := wP_row) B.pre
  have hta : ∀ w ∈ AW, w.before _ s = true := fun w h => hts w (List.mem_cons_of_mem _ h)
  have hown : s.vm.findClass RP = some m.cls := findClass_of_methodNamed B.named
  have hlocks := B.notSynchronized
  have hl := lv_entry ([.ref (ad 7), .int kd, .int wk, .long b]) (n := 5) (Nat.le_of_ble_eq_true rfl)
  rw [lg_entry_eq]
  generalize (lg_sl ([.ref (ad 7), .int kd, .int wk, .long b]) ++ List.replicate (5 - (lg_sl ([.ref (ad 7), .int kd, .int wk, .long b])).length) Slot.unset).toArray = ls at hl ⊢
  have hl : lv_has ls 5 [(0, .ref (ad 7)), (1, .int kd), (2, .int wk), (3, .long b)] := hl
  refine lv_aload_n hx hb dP_row_0 rfl (lv_at hl 0 rfl) ?_
  exact tx_call (vx_runV (As := []) (rest := []) ⟨hx, hb, hml, hown, hta⟩ (t_P_needRoomForRow_S l hlt dC dI ad k P F T hro hn) (cwV 0 hta (gV m_251 m_253 mp_9 m_1 m_254) rfl rfl rfl (by decide +kernel) ⟨Nat.le_of_ble_eq_true rfl, Nat.le_of_ble_eq_true rfl⟩) (td_V hX hss hzz hK hP (ci := 1) (q0 := 0) rfl rfl) rfl rfl hl.1 rfl (lv_room (Nat.le_of_ble_eq_true rfl)) dP_row_1 ⟨Nat.le_of_ble_eq_true rfl, Nat.le_of_ble_eq_true rfl⟩) (fun ce q9 H1 k1 k2 k3 k4 k5 => vx_out (fun x h => (hout x h).elim) hlocks k3 k4 k5 (fun t ht _ => ⟨rfl, by rw [ht]; exact k1, fun q h => by rw [ht]; exact k2 q h⟩) (fun z h => nomatch h) (Nat.le_refl _) (Nat.le_refl _))

set_option maxHeartbeats 4000000 in
set_option maxRecDepth 100000 in
theorem t_P_row_A (l : Launch) (hlt : l.stackTraces = false) (dC : Nat → ClassId) (dI : Nat → Nat → Nat) (ad : Nat → Nat) (k : Nat → ClassId) (P : PS) (F : Nat → Int32) (T : TS) (kd wk : Int32) (b : Int64) (hro : P.rows < 12) (hn : kd < 0 ∨ 2 < kd ∨ wk < 0 ∨ ¬ wk < P.wk ∨ b < -1000000 ∨ 1000000 < b) : vx_Met l yP_row wP_row ({ frames := 7, cells := 1, slots := 6, locals := 112 }) (tPc [.ref (ad 7), .int kd, .int wk, .long b] (dC, dI) vwCl (PW ad k P ++ (FW ad k F ++ TW ad k T)) (PK k ++ (FK k ++ TK k))) (fun _ _ _ _ => False) (xX (some eA)) 1 6 (fun _ => False) := by
  refine vx_ofW (cc := bP_row) (maxL := 5) (ret := (some .int)) (by decide) rfl ?_
  intro p e s m args below meth c s₁ B hml hout hv
  obtain ⟨rfl, hP, hK, hX, hss, hzz⟩ := hv
  have hx := B.exec
  have hb := B.bytes
  have hr := B.returns
  have hts := atoms_spec (ws := wP_row) B.pre
  have hta : ∀ w ∈ AW, w.before _ s = true := fun w h => hts w (List.mem_cons_of_mem _ h)
  have hown : s.vm.findClass RP = some m.cls := findClass_of_methodNamed B.named
  have hlocks := B.notSynchronized
  have hl := lv_entry ([.ref (ad 7), .int kd, .int wk, .long b]) (n := 5) (Nat.le_of_ble_eq_true rfl)
  rw [lg_entry_eq]
  generalize (lg_sl ([.ref (ad 7), .int kd, .int wk, .long b]) ++ List.replicate (5 - (lg_sl ([.ref (ad 7), .int kd, .int wk, .long b])).length) Slot.unset).toArray = ls at hl ⊢
  have hl : lv_has ls 5 [(0, .ref (ad 7)), (1, .int kd), (2, .int wk), (3, .long b)] := hl
  refine lv_aload_n hx hb dP_row_0 rfl (lv_at hl 0 rfl) ?_
  refine rd_call (va_runV (As := []) (rest := []) ⟨hx, hb, hml, hown, hta⟩ (c_P_needRoomForRow l dC dI ad k P F T (by first | omega | assumption)) (cwV 0 hta (gV m_251 m_253 mp_9 m_1 m_254) rfl rfl rfl (by decide +kernel) ⟨Nat.le_of_ble_eq_true rfl, Nat.le_of_ble_eq_true rfl⟩) (rd_V nW_ok hX hK hP (ci := 1) (q0 := 0) rfl rfl) rfl rfl hl.1 rfl (lv_room (Nat.le_of_ble_eq_true rfl)) dP_row_1 ⟨Nat.zero_le _, Nat.zero_le _⟩) ?_
  refine W.eq (g2 := F0 m 4 ls []) rfl ?_
  refine lv_iload_n hx hb dP_row_4 rfl (lv_at hl 1 rfl) ?_
  refine lv_if_lt (tgt := 13) hx hb dP_row_5 (by decide) (fun h1 => ?_) (fun h1 => ?_)
  · obtain ⟨sa, hsa⟩ := hss.1 (86, "no such kind") (by decide)
    exact vx_throwS (own := RP) (cls := eA) (text := "no such kind") (names := chN) (ik := 74) (is := 86) (ic := 78) (sa := sa) (A := fun _ => False) hx hb hlt hown fit_A ch_fit (hta _ m_220) (hta _ m_9) hsa (vx_hat (fun w h => hta w (at_A w h)) bt_A (fun w h => va_Nw.use (tB_on h) (hss.2.1 w h))) ot_A hzz.1 hzz.2 va_S.rf (hl.1.trans hml.symm) dP_row_13 dP_row_16 dP_row_17 dP_row_19 dP_row_22 (fun x h => (hout x h).elim) (Nat.le_of_ble_eq_true rfl) (Nat.le_of_ble_eq_true rfl) (Nat.le_of_ble_eq_true rfl) (Nat.le_of_ble_eq_true rfl) hlocks (fun t _ h1 h2 => ⟨rfl, h1, h2⟩) (fun z h => nomatch h) (Nat.le_refl _) (Nat.le_refl _)
  · refine lv_iload_n hx hb dP_row_8 rfl (lv_at hl 1 rfl) ?_
    refine lv_iconst (v := 2) hx hb dP_row_9 (by decide) ?_
    refine li_le (tgt := 23) hx hb dP_row_10 (by decide) (fun h2 => ?_) (fun h2 => ?_)
    · refine lv_iload_n hx hb dP_row_23 rfl (lv_at hl 2 rfl) ?_
      refine lv_if_lt (tgt := 35) hx hb dP_row_24 (by decide) (fun h3 => ?_) (fun h3 => ?_)
      · obtain ⟨sa, hsa⟩ := hss.1 (88, "no such week") (by decide)
        exact vx_throwS (own := RP) (cls := eA) (text := "no such week") (names := chN) (ik := 74) (is := 88) (ic := 78) (sa := sa) (A := fun _ => False) hx hb hlt hown fit_A ch_fit (hta _ m_220) (hta _ m_9) hsa (vx_hat (fun w h => hta w (at_A w h)) bt_A (fun w h => va_Nw.use (tB_on h) (hss.2.1 w h))) ot_A hzz.1 hzz.2 va_S.rf (hl.1.trans hml.symm) dP_row_35 dP_row_38 dP_row_39 dP_row_41 dP_row_44 (fun x h => (hout x h).elim) (Nat.le_of_ble_eq_true rfl) (Nat.le_of_ble_eq_true rfl) (Nat.le_of_ble_eq_true rfl) (Nat.le_of_ble_eq_true rfl) hlocks (fun t _ h1 h2 => ⟨rfl, h1, h2⟩) (fun z h => nomatch h) (Nat.le_refl _) (Nat.le_refl _)
      · refine lv_iload_n hx hb dP_row_27 rfl (lv_at hl 2 rfl) ?_
        refine lv_aload_n hx hb dP_row_28 rfl (lv_at hl 0 rfl) ?_
        refine va_get (D := (dC, dI)) (ci := 1) (v := .int P.wk) (C := RP) (T := FP) (N := 12) hx hb hta iP hown hK hP 0 rfl rfl 0 (by decide) (hta _ m_63) (fun _ h9 => h9) rfl dP_row_29 ?_
        refine lv_icmp_lt (tgt := 45) hx hb dP_row_32 (by decide) (fun h4 => ?_) (fun h4 => ?_)
        · refine lv_lload_n hx hb dP_row_45 rfl (lv_at hl 3 rfl) ?_
          exact tx_call (vx_runS (As := [.long b]) (rest := []) ⟨hx, hb, hml, hown, hta⟩ (t_P_needRight_A l hlt dC dI ad k b (by rcases hn with z | z | z | z | z | z; exact absurd z h1; exact absurd z h2; exact absurd z h3; exact absurd h4 z; exact Or.inl z; exact Or.inr z)) (cwS 1 hta (gS m_258 m_259 m_1 m_260) rfl rfl rfl (by decide +kernel) ⟨Nat.le_of_ble_eq_true rfl, Nat.le_of_ble_eq_true rfl⟩) (td_S hX hss hzz (hK.sub [] rfl) va_P_nil) rfl rfl hl.1 rfl (lv_room (Nat.le_of_ble_eq_true rfl)) dP_row_46 ⟨Nat.le_of_ble_eq_true rfl, Nat.le_of_ble_eq_true rfl⟩) (fun ce q9 H1 k1 k2 k3 k4 k5 => vx_out (fun x h => (hout x h).elim) hlocks k3 k4 k5 (fun t ht _ => ⟨rfl, by rw [ht]; exact k1, fun q h => by rw [ht]; exact k2 q h⟩) (fun z h => nomatch h) (Nat.le_refl _) (Nat.le_refl _))
        · obtain ⟨sa, hsa⟩ := hss.1 (88, "no such week") (by decide)
          exact vx_throwS (own := RP) (cls := eA) (text := "no such week") (names := chN) (ik := 74) (is := 88) (ic := 78) (sa := sa) (A := fun _ => False) hx hb hlt hown fit_A ch_fit (hta _ m_220) (hta _ m_9) hsa (vx_hat (fun w h => hta w (at_A w h)) bt_A (fun w h => va_Nw.use (tB_on h) (hss.2.1 w h))) ot_A hzz.1 hzz.2 va_S.rf (hl.1.trans hml.symm) dP_row_35 dP_row_38 dP_row_39 dP_row_41 dP_row_44 (fun x h => (hout x h).elim) (Nat.le_of_ble_eq_true rfl) (Nat.le_of_ble_eq_true rfl) (Nat.le_of_ble_eq_true rfl) (Nat.le_of_ble_eq_true rfl) hlocks (fun t _ h1 h2 => ⟨rfl, h1, h2⟩) (fun z h => nomatch h) (Nat.le_refl _) (Nat.le_refl _)
    · obtain ⟨sa, hsa⟩ := hss.1 (86, "no such kind") (by decide)
      exact vx_throwS (own := RP) (cls := eA) (text := "no such kind") (names := chN) (ik := 74) (is := 86) (ic := 78) (sa := sa) (A := fun _ => False) hx hb hlt hown fit_A ch_fit (hta _ m_220) (hta _ m_9) hsa (vx_hat (fun w h => hta w (at_A w h)) bt_A (fun w h => va_Nw.use (tB_on h) (hss.2.1 w h))) ot_A hzz.1 hzz.2 va_S.rf (hl.1.trans hml.symm) dP_row_13 dP_row_16 dP_row_17 dP_row_19 dP_row_22 (fun x h => (hout x h).elim) (Nat.le_of_ble_eq_true rfl) (Nat.le_of_ble_eq_true rfl) (Nat.le_of_ble_eq_true rfl) (Nat.le_of_ble_eq_true rfl) hlocks (fun t _ h1 h2 => ⟨rfl, h1, h2⟩) (fun z h => nomatch h) (Nat.le_refl _) (Nat.le_refl _)

set_option maxHeartbeats 4000000 in
set_option maxRecDepth 100000 in
theorem t_P_factor_I1 (l : Launch) (hlt : l.stackTraces = false) (dC : Nat → ClassId) (dI : Nat → Nat → Nat) (ad : Nat → Nat) (k : Nat → ClassId) (P : PS) (F : Nat → Int32) (T : TS) (x y v : Int32) (hro : P.rows ≤ 12) (hn : idx P.rows x = none) : vx_Met l yP_factor wP_factor ({ frames := 7, cells := 1, slots := 6, locals := 112 }) (tPc [.ref (ad 7), .int x, .int y, .int v] (dC, dI) vwCl (PW ad k P ++ (FW ad k F ++ TW ad k T)) (PK k ++ (FK k ++ TK k))) (fun _ _ _ _ => False) (xX (some eI)) 1 6 (fun _ => False) := by
  refine vx_ofW (cc := bP_factor) (maxL := 5) (ret := (some .int)) (by decide) rfl ?_
  intro p e s m args below meth c s₁ B hml hout hv
  obtain ⟨rfl, hP, hK, hX, hss, hzz⟩ := hv
  have hx := B.exec
  have hb := B.bytes
  have hr := B.returns
  have hts := atoms_spec (ws := wP_factor) B.pre
  have hta : ∀ w ∈ AW, w.before _ s = true := fun w h => hts w (List.mem_cons_of_mem _ h)
  have hown : s.vm.findClass RP = some m.cls := findClass_of_methodNamed B.named
  have hlocks := B.notSynchronized
  have hl := lv_entry ([.ref (ad 7), .int x, .int y, .int v]) (n := 5) (Nat.le_of_ble_eq_true rfl)
  rw [lg_entry_eq]
  generalize (lg_sl ([.ref (ad 7), .int x, .int y, .int v]) ++ List.replicate (5 - (lg_sl ([.ref (ad 7), .int x, .int y, .int v])).length) Slot.unset).toArray = ls at hl ⊢
  have hl : lv_has ls 5 [(0, .ref (ad 7)), (1, .int x), (2, .int y), (3, .int v)] := hl
  refine lv_aload_n hx hb dP_factor_0 rfl (lv_at hl 0 rfl) ?_
  refine lv_iload_n hx hb dP_factor_1 rfl (lv_at hl 1 rfl) ?_
  exact tx_call (vx_runV (As := [.int x]) (rest := []) ⟨hx, hb, hml, hown, hta⟩ (t_P_needRow_I l hlt dC dI ad k P F T x hro hn) (cwV 1 hta (gV m_276 m_278 mp_11 m_1 m_279) rfl rfl rfl (by decide +kernel) ⟨Nat.le_of_ble_eq_true rfl, Nat.le_of_ble_eq_true rfl⟩) (td_V hX hss hzz hK hP (ci := 1) (q0 := 0) rfl rfl) rfl rfl hl.1 rfl (lv_room (Nat.le_of_ble_eq_true rfl)) dP_factor_2 ⟨Nat.le_of_ble_eq_true rfl, Nat.le_of_ble_eq_true rfl⟩) (fun ce q9 H1 k1 k2 k3 k4 k5 => vx_out (fun x h => (hout x h).elim) hlocks k3 k4 k5 (fun t ht _ => ⟨rfl, by rw [ht]; exact k1, fun q h => by rw [ht]; exact k2 q h⟩) (fun z h => nomatch h) (Nat.le_refl _) (Nat.le_refl _))

set_option maxHeartbeats 4000000 in
set_option maxRecDepth 100000 in
theorem t_P_factor_I2 (l : Launch) (hlt : l.stackTraces = false) (dC : Nat → ClassId) (dI : Nat → Nat → Nat) (ad : Nat → Nat) (k : Nat → ClassId) (P : PS) (F : Nat → Int32) (T : TS) (r : Nat) (y v : Int32) (hro : P.rows ≤ 12) (hr9 : r < P.rows) (hw : T.w ≤ 12) (hn : idx T.w y = none) : vx_Met l yP_factor wP_factor ({ frames := 7, cells := 1, slots := 6, locals := 112 }) (tPc [.ref (ad 7), .int (nI r), .int y, .int v] (dC, dI) vwCl (PW ad k P ++ (FW ad k F ++ TW ad k T)) (PK k ++ (FK k ++ TK k))) (fun _ _ _ _ => False) (xX (some eI)) 1 6 (fun _ => False) := by
  refine vx_ofW (cc := bP_factor) (maxL := 5) (ret := (some .int)) (by decide) rfl ?_
  intro p e s m args below meth c s₁ B hml hout hv
  obtain ⟨rfl, hP, hK, hX, hss, hzz⟩ := hv
  have hx := B.exec
  have hb := B.bytes
  have hr := B.returns
  have hts := atoms_spec (ws := wP_factor) B.pre
  have hta : ∀ w ∈ AW, w.before _ s = true := fun w h => hts w (List.mem_cons_of_mem _ h)
  have hown : s.vm.findClass RP = some m.cls := findClass_of_methodNamed B.named
  have hlocks := B.notSynchronized
  have hl := lv_entry ([.ref (ad 7), .int (nI r), .int y, .int v]) (n := 5) (Nat.le_of_ble_eq_true rfl)
  rw [lg_entry_eq]
  generalize (lg_sl ([.ref (ad 7), .int (nI r), .int y, .int v]) ++ List.replicate (5 - (lg_sl ([.ref (ad 7), .int (nI r), .int y, .int v])).length) Slot.unset).toArray = ls at hl ⊢
  have hl : lv_has ls 5 [(0, .ref (ad 7)), (1, .int (nI r)), (2, .int y), (3, .int v)] := hl
  refine lv_aload_n hx hb dP_factor_0 rfl (lv_at hl 0 rfl) ?_
  refine lv_iload_n hx hb dP_factor_1 rfl (lv_at hl 1 rfl) ?_
  refine rd_call (va_runV (As := [.int (nI r)]) (rest := []) ⟨hx, hb, hml, hown, hta⟩ (c_P_needRow l dC dI ad k P F T r (by first | omega | assumption) (by first | omega | assumption)) (cwV 1 hta (gV m_276 m_278 mp_11 m_1 m_279) rfl rfl rfl (by decide +kernel) ⟨Nat.le_of_ble_eq_true rfl, Nat.le_of_ble_eq_true rfl⟩) (rd_V nW_ok hX hK hP (ci := 1) (q0 := 0) rfl rfl) rfl rfl hl.1 rfl (lv_room (Nat.le_of_ble_eq_true rfl)) dP_factor_2 ⟨Nat.zero_le _, Nat.zero_le _⟩) ?_
  refine W.eq (g2 := F0 m 5 ls []) rfl ?_
  refine lv_aload_n hx hb dP_factor_5 rfl (lv_at hl 0 rfl) ?_
  refine lv_iload_n hx hb dP_factor_6 rfl (lv_at hl 2 rfl) ?_
  exact tx_call (vx_runV (As := [.int y]) (rest := []) ⟨hx, hb, hml, hown, hta⟩ (t_P_needColumn_I l hlt dC dI ad k P F T y hw hn) (cwV 1 hta (gV m_296 m_298 mp_12 m_1 m_299) rfl rfl rfl (by decide +kernel) ⟨Nat.le_of_ble_eq_true rfl, Nat.le_of_ble_eq_true rfl⟩) (td_V hX hss hzz hK hP (ci := 1) (q0 := 0) rfl rfl) rfl rfl hl.1 rfl (lv_room (Nat.le_of_ble_eq_true rfl)) dP_factor_7 ⟨Nat.le_of_ble_eq_true rfl, Nat.le_of_ble_eq_true rfl⟩) (fun ce q9 H1 k1 k2 k3 k4 k5 => vx_out (fun x h => (hout x h).elim) hlocks k3 k4 k5 (fun t ht _ => ⟨rfl, by rw [ht]; exact k1, fun q h => by rw [ht]; exact k2 q h⟩) (fun z h => nomatch h) (Nat.le_refl _) (Nat.le_refl _))

set_option maxHeartbeats 4000000 in
set_option maxRecDepth 100000 in
theorem t_P_factor_S (l : Launch) (hlt : l.stackTraces = false) (dC : Nat → ClassId) (dI : Nat → Nat → Nat) (ad : Nat → Nat) (k : Nat → ClassId) (P : PS) (F : Nat → Int32) (T : TS) (r j : Nat) (v : Int32) (hro : P.rows ≤ 12) (hr9 : r < P.rows) (hw : T.w ≤ 12) (hj9 : j < T.w) (hri : P.rin ≤ 12) (hn : r < P.rin) : vx_Met l yP_factor wP_factor ({ frames := 7, cells := 1, slots := 6, locals := 112 }) (tPc [.ref (ad 7), .int (nI r), .int (nI j), .int v] (dC, dI) vwCl (PW ad k P ++ (FW ad k F ++ TW ad k T)) (PK k ++ (FK k ++ TK k))) (fun _ _ _ _ => False) (xX (some eS)) 1 6 (fun _ => False) := by
  refine vx_ofW (cc := bP_factor) (maxL := 5) (ret := (some .int)) (by decide) rfl ?_
  intro p e s m args below meth c s₁ B hml hout hv
  obtain ⟨rfl, hP, hK, hX, hss, hzz⟩ := hv
  have hx := B.exec
  have hb := B.bytes
  have hr := B.returns
  have hts := atoms_spec (ws := wP_factor) B.pre
  have hta : ∀ w ∈ AW, w.before _ s = true := fun w h => hts w (List.mem_cons_of_mem _ h)
  have hown : s.vm.findClass RP = some m.cls := findClass_of_methodNamed B.named
  have hlocks := B.notSynchronized
  have hl := lv_entry ([.ref (ad 7), .int (nI r), .int (nI j), .int v]) (n := 5) (Nat.le_of_ble_eq_true rfl)
  rw [lg_entry_eq]
  generalize (lg_sl ([.ref (ad 7), .int (nI r), .int (nI j), .int v]) ++ List.replicate (5 - (lg_sl ([.ref (ad 7), .int (nI r), .int (nI j), .int v])).length) Slot.unset).toArray = ls at hl ⊢
  have hl : lv_has ls 5 [(0, .ref (ad 7)), (1, .int (nI r)), (2, .int (nI j)), (3, .int v)] := hl
  refine lv_aload_n hx hb dP_factor_0 rfl (lv_at hl 0 rfl) ?_
  refine lv_iload_n hx hb dP_factor_1 rfl (lv_at hl 1 rfl) ?_
  refine rd_call (va_runV (As := [.int (nI r)]) (rest := []) ⟨hx, hb, hml, hown, hta⟩ (c_P_needRow l dC dI ad k P F T r (by first | omega | assumption) (by first | omega | assumption)) (cwV 1 hta (gV m_276 m_278 mp_11 m_1 m_279) rfl rfl rfl (by decide +kernel) ⟨Nat.le_of_ble_eq_true rfl, Nat.le_of_ble_eq_true rfl⟩) (rd_V nW_ok hX hK hP (ci := 1) (q0 := 0) rfl rfl) rfl rfl hl.1 rfl (lv_room (Nat.le_of_ble_eq_true rfl)) dP_factor_2 ⟨Nat.zero_le _, Nat.zero_le _⟩) ?_
  refine W.eq (g2 := F0 m 5 ls []) rfl ?_
  refine lv_aload_n hx hb dP_factor_5 rfl (lv_at hl 0 rfl) ?_
  refine lv_iload_n hx hb dP_factor_6 rfl (lv_at hl 2 rfl) ?_
  refine rd_call (va_runV (As := [.int (nI j)]) (rest := []) ⟨hx, hb, hml, hown, hta⟩ (c_P_needColumn l dC dI ad k P F T j (by first | omega | assumption) (by first | omega | assumption)) (cwV 1 hta (gV m_296 m_298 mp_12 m_1 m_299) rfl rfl rfl (by decide +kernel) ⟨Nat.le_of_ble_eq_true rfl, Nat.le_of_ble_eq_true rfl⟩) (rd_V nW_ok hX hK hP (ci := 1) (q0 := 0) rfl rfl) rfl rfl hl.1 rfl (lv_room (Nat.le_of_ble_eq_true rfl)) dP_factor_7 ⟨Nat.zero_le _, Nat.zero_le _⟩) ?_
  refine W.eq (g2 := F0 m 10 ls []) rfl ?_
  refine lv_iload_n hx hb dP_factor_10 rfl (lv_at hl 1 rfl) ?_
  refine lv_aload_n hx hb dP_factor_11 rfl (lv_at hl 0 rfl) ?_
  refine va_get (D := (dC, dI)) (ci := 1) (v := .int (nI P.rin)) (C := RP) (T := FP) (N := 12) hx hb hta iP hown hK hP 0 rfl rfl 8 (by decide) (hta _ m_71) (fun _ h9 => h9) rfl dP_factor_12 ?_
  refine ni_ge (tgt := 28) hx hb dP_factor_15 (by decide) (by omega) (by omega) (fun c_1 => ?_) (fun c_1 => ?_)
  · exfalso; omega
  · obtain ⟨sa, hsa⟩ := hss.1 (105, "the row is in the table") (by decide)
    exact vx_throwS (own := RP) (cls := eS) (text := "the row is in the table") (names := chN) (ik := 65) (is := 105) (ic := 69) (sa := sa) (A := fun _ => False) hx hb hlt hown fit_S ch_fit (hta _ m_151) (hta _ m_8) hsa (vx_hat (fun w h => hta w (at_S w h)) bt_S (fun w h => va_Nw.use (tB_on h) (hss.2.1 w h))) ot_S hzz.1 hzz.2 va_S.rf (hl.1.trans hml.symm) dP_factor_18 dP_factor_21 dP_factor_22 dP_factor_24 dP_factor_27 (fun x h => (hout x h).elim) (Nat.le_of_ble_eq_true rfl) (Nat.le_of_ble_eq_true rfl) (Nat.le_of_ble_eq_true rfl) (Nat.le_of_ble_eq_true rfl) hlocks (fun t _ h1 h2 => ⟨rfl, h1, h2⟩) (fun z h => nomatch h) (Nat.le_refl _) (Nat.le_refl _)

set_option maxHeartbeats 4000000 in
set_option maxRecDepth 100000 in
theorem t_P_factor_A (l : Launch) (hlt : l.stackTraces = false) (dC : Nat → ClassId) (dI : Nat → Nat → Nat) (ad : Nat → Nat) (k : Nat → ClassId) (P : PS) (F : Nat → Int32) (T : TS) (r j : Nat) (v : Int32) (hro : P.rows ≤ 12) (hr9 : r < P.rows) (hw : T.w ≤ 12) (hj9 : j < T.w) (hri : P.rin ≤ r) (hn : v < -1000 ∨ 1000 < v) : vx_Met l yP_factor wP_factor ({ frames := 7, cells := 1, slots := 6, locals := 112 }) (tPc [.ref (ad 7), .int (nI r), .int (nI j), .int v] (dC, dI) vwCl (PW ad k P ++ (FW ad k F ++ TW ad k T)) (PK k ++ (FK k ++ TK k))) (fun _ _ _ _ => False) (xX (some eA)) 1 6 (fun _ => False) := by
  refine vx_ofW (cc := bP_factor) (maxL := 5) (ret := (some .int)) (by decide) rfl ?_
  intro p e s m args below meth c s₁ B hml hout hv
  obtain ⟨rfl, hP, hK, hX, hss, hzz⟩ := hv
  have hx := B.exec
  have hb := B.bytes
  have hr := B.returns
  have hts := atoms_spec (ws := wP_factor) B.pre
  have hta : ∀ w ∈ AW, w.before _ s = true := fun w h => hts w (List.mem_cons_of_mem _ h)
  have hown : s.vm.findClass RP = some m.cls := findClass_of_methodNamed B.named
  have hlocks := B.notSynchronized
  have hl := lv_entry ([.ref (ad 7), .int (nI r), .int (nI j), .int v]) (n := 5) (Nat.le_of_ble_eq_true rfl)
  rw [lg_entry_eq]
  generalize (lg_sl ([.ref (ad 7), .int (nI r), .int (nI j), .int v]) ++ List.replicate (5 - (lg_sl ([.ref (ad 7), .int (nI r), .int (nI j), .int v])).length) Slot.unset).toArray = ls at hl ⊢
  have hl : lv_has ls 5 [(0, .ref (ad 7)), (1, .int (nI r)), (2, .int (nI j)), (3, .int v)] := hl
  refine lv_aload_n hx hb dP_factor_0 rfl (lv_at hl 0 rfl) ?_
  refine lv_iload_n hx hb dP_factor_1 rfl (lv_at hl 1 rfl) ?_
  refine rd_call (va_runV (As := [.int (nI r)]) (rest := []) ⟨hx, hb, hml, hown, hta⟩ (c_P_needRow l dC dI ad k P F T r (by first | omega | assumption) (by first | omega | assumption)) (cwV 1 hta (gV m_276 m_278 mp_11 m_1 m_279) rfl rfl rfl (by decide +kernel) ⟨Nat.le_of_ble_eq_true rfl, Nat.le_of_ble_eq_true rfl⟩) (rd_V nW_ok hX hK hP (ci := 1) (q0 := 0) rfl rfl) rfl rfl hl.1 rfl (lv_room (Nat.le_of_ble_eq_true rfl)) dP_factor_2 ⟨Nat.zero_le _, Nat.zero_le _⟩) ?_
  refine W.eq (g2 := F0 m 5 ls []) rfl ?_
  refine lv_aload_n hx hb dP_factor_5 rfl (lv_at hl 0 rfl) ?_
  refine lv_iload_n hx hb dP_factor_6 rfl (lv_at hl 2 rfl) ?_
  refine rd_call (va_runV (As := [.int (nI j)]) (rest := []) ⟨hx, hb, hml, hown, hta⟩ (c_P_needColumn l dC dI ad k P F T j (by first | omega | assumption) (by first | omega | assumption)) (cwV 1 hta (gV m_296 m_298 mp_12 m_1 m_299) rfl rfl rfl (by decide +kernel) ⟨Nat.le_of_ble_eq_true rfl, Nat.le_of_ble_eq_true rfl⟩) (rd_V nW_ok hX hK hP (ci := 1) (q0 := 0) rfl rfl) rfl rfl hl.1 rfl (lv_room (Nat.le_of_ble_eq_true rfl)) dP_factor_7 ⟨Nat.zero_le _, Nat.zero_le _⟩) ?_
  refine W.eq (g2 := F0 m 10 ls []) rfl ?_
  refine lv_iload_n hx hb dP_factor_10 rfl (lv_at hl 1 rfl) ?_
  refine lv_aload_n hx hb dP_factor_11 rfl (lv_at hl 0 rfl) ?_
  refine va_get (D := (dC, dI)) (ci := 1) (v := .int (nI P.rin)) (C := RP) (T := FP) (N := 12) hx hb hta iP hown hK hP 0 rfl rfl 8 (by decide) (hta _ m_71) (fun _ h9 => h9) rfl dP_factor_12 ?_
  refine ni_ge (tgt := 28) hx hb dP_factor_15 (by decide) (by omega) (by omega) (fun c_1 => ?_) (fun c_1 => ?_)
  · refine lv_iload_n hx hb dP_factor_28 rfl (lv_at hl 3 rfl) ?_
    refine lv_sipush (v := (-1000)) hx hb dP_factor_29 (by decide) ?_
    refine lv_icmp_lt (tgt := 42) hx hb dP_factor_32 (by decide) (fun h1 => ?_) (fun h1 => ?_)
    · obtain ⟨sa, hsa⟩ := hss.1 (107, "no such factor") (by decide)
      exact vx_throwS (own := RP) (cls := eA) (text := "no such factor") (names := chN) (ik := 74) (is := 107) (ic := 78) (sa := sa) (A := fun _ => False) hx hb hlt hown fit_A ch_fit (hta _ m_220) (hta _ m_9) hsa (vx_hat (fun w h => hta w (at_A w h)) bt_A (fun w h => va_Nw.use (tB_on h) (hss.2.1 w h))) ot_A hzz.1 hzz.2 va_S.rf (hl.1.trans hml.symm) dP_factor_42 dP_factor_45 dP_factor_46 dP_factor_48 dP_factor_51 (fun x h => (hout x h).elim) (Nat.le_of_ble_eq_true rfl) (Nat.le_of_ble_eq_true rfl) (Nat.le_of_ble_eq_true rfl) (Nat.le_of_ble_eq_true rfl) hlocks (fun t _ h1 h2 => ⟨rfl, h1, h2⟩) (fun z h => nomatch h) (Nat.le_refl _) (Nat.le_refl _)
    · refine lv_iload_n hx hb dP_factor_35 rfl (lv_at hl 3 rfl) ?_
      refine lv_sipush (v := 1000) hx hb dP_factor_36 (by decide) ?_
      refine li_le (tgt := 52) hx hb dP_factor_39 (by decide) (fun h2 => ?_) (fun h2 => ?_)
      · exact (hn.elim h1 h2).elim
      · obtain ⟨sa, hsa⟩ := hss.1 (107, "no such factor") (by decide)
        exact vx_throwS (own := RP) (cls := eA) (text := "no such factor") (names := chN) (ik := 74) (is := 107) (ic := 78) (sa := sa) (A := fun _ => False) hx hb hlt hown fit_A ch_fit (hta _ m_220) (hta _ m_9) hsa (vx_hat (fun w h => hta w (at_A w h)) bt_A (fun w h => va_Nw.use (tB_on h) (hss.2.1 w h))) ot_A hzz.1 hzz.2 va_S.rf (hl.1.trans hml.symm) dP_factor_42 dP_factor_45 dP_factor_46 dP_factor_48 dP_factor_51 (fun x h => (hout x h).elim) (Nat.le_of_ble_eq_true rfl) (Nat.le_of_ble_eq_true rfl) (Nat.le_of_ble_eq_true rfl) (Nat.le_of_ble_eq_true rfl) hlocks (fun t _ h1 h2 => ⟨rfl, h1, h2⟩) (fun z h => nomatch h) (Nat.le_refl _) (Nat.le_refl _)
  · exfalso; omega

set_option maxHeartbeats 4000000 in
set_option maxRecDepth 100000 in
theorem t_P_cut_I1 (l : Launch) (hlt : l.stackTraces = false) (dC : Nat → ClassId) (dI : Nat → Nat → Nat) (ad : Nat → Nat) (k : Nat → ClassId) (P : PS) (F : Nat → Int32) (T : TS) (x y : Int32) (hw : T.w ≤ 12) (hn : idx T.w x = none) : vx_Met l yP_cut wP_cut ({ frames := 7, cells := 1, slots := 6, locals := 112 }) (tPc [.ref (ad 7), .int x, .int y] (dC, dI) vwCl (PW ad k P ++ (FW ad k F ++ TW ad k T)) (PK k ++ (FK k ++ TK k))) (fun _ _ _ _ => False) (xX (some eI)) 1 6 (fun _ => False) := by
  refine vx_ofW (cc := bP_cut) (maxL := 4) (ret := (some .int)) (by decide) rfl ?_
  intro p e s m args below meth c s₁ B hml hout hv
  obtain ⟨rfl, hP, hK, hX, hss, hzz⟩ := hv
  have hx := B.exec
  have hb := B.bytes
  have hr := B.returns
  have hts := atoms_spec (ws := wP_cut) B.pre
  have hta : ∀ w ∈ AW, w.before _ s = true := fun w h => hts w (List.mem_cons_of_mem _ h)
  have hown : s.vm.findClass RP = some m.cls := findClass_of_methodNamed B.named
  have hlocks := B.notSynchronized
  have hl := lv_entry ([.ref (ad 7), .int x, .int y]) (n := 4) (Nat.le_of_ble_eq_true rfl)
  rw [lg_entry_eq]
  generalize (lg_sl ([.ref (ad 7), .int x, .int y]) ++ List.replicate (4 - (lg_sl ([.ref (ad 7), .int x, .int y])).length) Slot.unset).toArray = ls at hl ⊢
  have hl : lv_has ls 4 [(0, .ref (ad 7)), (1, .int x), (2, .int y)] := hl
  refine lv_aload_n hx hb dP_cut_0 rfl (lv_at hl 0 rfl) ?_
  refine lv_iload_n hx hb dP_cut_1 rfl (lv_at hl 1 rfl) ?_
  exact tx_call (vx_runV (As := [.int x]) (rest := []) ⟨hx, hb, hml, hown, hta⟩ (t_P_needColumn_I l hlt dC dI ad k P F T x hw hn) (cwV 1 hta (gV m_296 m_298 mp_12 m_1 m_299) rfl rfl rfl (by decide +kernel) ⟨Nat.le_of_ble_eq_true rfl, Nat.le_of_ble_eq_true rfl⟩) (td_V hX hss hzz hK hP (ci := 1) (q0 := 0) rfl rfl) rfl rfl hl.1 rfl (lv_room (Nat.le_of_ble_eq_true rfl)) dP_cut_2 ⟨Nat.le_of_ble_eq_true rfl, Nat.le_of_ble_eq_true rfl⟩) (fun ce q9 H1 k1 k2 k3 k4 k5 => vx_out (fun x h => (hout x h).elim) hlocks k3 k4 k5 (fun t ht _ => ⟨rfl, by rw [ht]; exact k1, fun q h => by rw [ht]; exact k2 q h⟩) (fun z h => nomatch h) (Nat.le_refl _) (Nat.le_refl _))

set_option maxHeartbeats 4000000 in
set_option maxRecDepth 100000 in
theorem t_P_cut_I2 (l : Launch) (hlt : l.stackTraces = false) (dC : Nat → ClassId) (dI : Nat → Nat → Nat) (ad : Nat → Nat) (k : Nat → ClassId) (P : PS) (F : Nat → Int32) (T : TS) (i : Nat) (y : Int32) (hw : T.w ≤ 12) (hi9 : i < T.w) (hn : idx T.w y = none) : vx_Met l yP_cut wP_cut ({ frames := 7, cells := 1, slots := 6, locals := 112 }) (tPc [.ref (ad 7), .int (nI i), .int y] (dC, dI) vwCl (PW ad k P ++ (FW ad k F ++ TW ad k T)) (PK k ++ (FK k ++ TK k))) (fun _ _ _ _ => False) (xX (some eI)) 1 6 (fun _ => False) := by
  refine vx_ofW (cc := bP_cut) (maxL := 4) (ret := (some .int)) (by decide) rfl ?_
  intro p e s m args below meth c s₁ B hml hout hv
  obtain ⟨rfl, hP, hK, hX, hss, hzz⟩ := hv
  have hx := B.exec
  have hb := B.bytes
  have hr := B.returns
  have hts := atoms_spec (ws := wP_cut) B.pre
  have hta : ∀ w ∈ AW, w.before _ s = true := fun w h => hts w (List.mem_cons_of_mem _ h)
  have hown : s.vm.findClass RP = some m.cls := findClass_of_methodNamed B.named
  have hlocks := B.notSynchronized
  have hl := lv_entry ([.ref (ad 7), .int (nI i), .int y]) (n := 4) (Nat.le_of_ble_eq_true rfl)
  rw [lg_entry_eq]
  generalize (lg_sl ([.ref (ad 7), .int (nI i), .int y]) ++ List.replicate (4 - (lg_sl ([.ref (ad 7), .int (nI i), .int y])).length) Slot.unset).toArray = ls at hl ⊢
  have hl : lv_has ls 4 [(0, .ref (ad 7)), (1, .int (nI i)), (2, .int y)] := hl
  refine lv_aload_n hx hb dP_cut_0 rfl (lv_at hl 0 rfl) ?_
  refine lv_iload_n hx hb dP_cut_1 rfl (lv_at hl 1 rfl) ?_
  refine rd_call (va_runV (As := [.int (nI i)]) (rest := []) ⟨hx, hb, hml, hown, hta⟩ (c_P_needColumn l dC dI ad k P F T i (by first | omega | assumption) (by first | omega | assumption)) (cwV 1 hta (gV m_296 m_298 mp_12 m_1 m_299) rfl rfl rfl (by decide +kernel) ⟨Nat.le_of_ble_eq_true rfl, Nat.le_of_ble_eq_true rfl⟩) (rd_V nW_ok hX hK hP (ci := 1) (q0 := 0) rfl rfl) rfl rfl hl.1 rfl (lv_room (Nat.le_of_ble_eq_true rfl)) dP_cut_2 ⟨Nat.zero_le _, Nat.zero_le _⟩) ?_
  refine W.eq (g2 := F0 m 5 ls []) rfl ?_
  refine lv_aload_n hx hb dP_cut_5 rfl (lv_at hl 0 rfl) ?_
  refine lv_iload_n hx hb dP_cut_6 rfl (lv_at hl 2 rfl) ?_
  exact tx_call (vx_runV (As := [.int y]) (rest := []) ⟨hx, hb, hml, hown, hta⟩ (t_P_needColumn_I l hlt dC dI ad k P F T y hw hn) (cwV 1 hta (gV m_296 m_298 mp_12 m_1 m_299) rfl rfl rfl (by decide +kernel) ⟨Nat.le_of_ble_eq_true rfl, Nat.le_of_ble_eq_true rfl⟩) (td_V hX hss hzz hK hP (ci := 1) (q0 := 0) rfl rfl) rfl rfl hl.1 rfl (lv_room (Nat.le_of_ble_eq_true rfl)) dP_cut_7 ⟨Nat.le_of_ble_eq_true rfl, Nat.le_of_ble_eq_true rfl⟩) (fun ce q9 H1 k1 k2 k3 k4 k5 => vx_out (fun x h => (hout x h).elim) hlocks k3 k4 k5 (fun t ht _ => ⟨rfl, by rw [ht]; exact k1, fun q h => by rw [ht]; exact k2 q h⟩) (fun z h => nomatch h) (Nat.le_refl _) (Nat.le_refl _))

set_option maxHeartbeats 4000000 in
set_option maxRecDepth 100000 in
theorem t_P_cut_S (l : Launch) (hlt : l.stackTraces = false) (dC : Nat → ClassId) (dI : Nat → Nat → Nat) (ad : Nat → Nat) (k : Nat → ClassId) (P : PS) (F : Nat → Int32) (T : TS) (i j : Nat) (hw : T.w ≤ 12) (hi9 : i < T.w) (hj9 : j < T.w) (hro : P.rows ≤ 12) (hn : 12 ≤ P.rows) : vx_Met l yP_cut wP_cut ({ frames := 7, cells := 1, slots := 6, locals := 112 }) (tPc [.ref (ad 7), .int (nI i), .int (nI j)] (dC, dI) vwCl (PW ad k P ++ (FW ad k F ++ TW ad k T)) (PK k ++ (FK k ++ TK k))) (fun _ _ _ _ => False) (xX (some eS)) 1 6 (fun _ => False) := by
  refine vx_ofW (cc := bP_cut) (maxL := 4) (ret := (some .int)) (by decide) rfl ?_
  intro p e s m args below meth c s₁ B hml hout hv
  obtain ⟨rfl, hP, hK, hX, hss, hzz⟩ := hv
  have hx := B.exec
  have hb := B.bytes
  have hr := B.returns
  have hts := atoms_spec (ws := wP_cut) B.pre
  have hta : ∀ w ∈ AW, w.before _ s = true := fun w h => hts w (List.mem_cons_of_mem _ h)
  have hown : s.vm.findClass RP = some m.cls := findClass_of_methodNamed B.named
  have hlocks := B.notSynchronized
  have hl := lv_entry ([.ref (ad 7), .int (nI i), .int (nI j)]) (n := 4) (Nat.le_of_ble_eq_true rfl)
  rw [lg_entry_eq]
  generalize (lg_sl ([.ref (ad 7), .int (nI i), .int (nI j)]) ++ List.replicate (4 - (lg_sl ([.ref (ad 7), .int (nI i), .int (nI j)])).length) Slot.unset).toArray = ls at hl ⊢
  have hl : lv_has ls 4 [(0, .ref (ad 7)), (1, .int (nI i)), (2, .int (nI j))] := hl
  refine lv_aload_n hx hb dP_cut_0 rfl (lv_at hl 0 rfl) ?_
  refine lv_iload_n hx hb dP_cut_1 rfl (lv_at hl 1 rfl) ?_
  refine rd_call (va_runV (As := [.int (nI i)]) (rest := []) ⟨hx, hb, hml, hown, hta⟩ (c_P_needColumn l dC dI ad k P F T i (by first | omega | assumption) (by first | omega | assumption)) (cwV 1 hta (gV m_296 m_298 mp_12 m_1 m_299) rfl rfl rfl (by decide +kernel) ⟨Nat.le_of_ble_eq_true rfl, Nat.le_of_ble_eq_true rfl⟩) (rd_V nW_ok hX hK hP (ci := 1) (q0 := 0) rfl rfl) rfl rfl hl.1 rfl (lv_room (Nat.le_of_ble_eq_true rfl)) dP_cut_2 ⟨Nat.zero_le _, Nat.zero_le _⟩) ?_
  refine W.eq (g2 := F0 m 5 ls []) rfl ?_
  refine lv_aload_n hx hb dP_cut_5 rfl (lv_at hl 0 rfl) ?_
  refine lv_iload_n hx hb dP_cut_6 rfl (lv_at hl 2 rfl) ?_
  refine rd_call (va_runV (As := [.int (nI j)]) (rest := []) ⟨hx, hb, hml, hown, hta⟩ (c_P_needColumn l dC dI ad k P F T j (by first | omega | assumption) (by first | omega | assumption)) (cwV 1 hta (gV m_296 m_298 mp_12 m_1 m_299) rfl rfl rfl (by decide +kernel) ⟨Nat.le_of_ble_eq_true rfl, Nat.le_of_ble_eq_true rfl⟩) (rd_V nW_ok hX hK hP (ci := 1) (q0 := 0) rfl rfl) rfl rfl hl.1 rfl (lv_room (Nat.le_of_ble_eq_true rfl)) dP_cut_7 ⟨Nat.zero_le _, Nat.zero_le _⟩) ?_
  refine W.eq (g2 := F0 m 10 ls []) rfl ?_
  refine lv_aload_n hx hb dP_cut_10 rfl (lv_at hl 0 rfl) ?_
  exact tx_call (vx_runV (As := []) (rest := []) ⟨hx, hb, hml, hown, hta⟩ (t_P_needRoomForRow_S l hlt dC dI ad k P F T hro hn) (cwV 0 hta (gV m_251 m_253 mp_9 m_1 m_254) rfl rfl rfl (by decide +kernel) ⟨Nat.le_of_ble_eq_true rfl, Nat.le_of_ble_eq_true rfl⟩) (td_V hX hss hzz hK hP (ci := 1) (q0 := 0) rfl rfl) rfl rfl hl.1 rfl (lv_room (Nat.le_of_ble_eq_true rfl)) dP_cut_11 ⟨Nat.le_of_ble_eq_true rfl, Nat.le_of_ble_eq_true rfl⟩) (fun ce q9 H1 k1 k2 k3 k4 k5 => vx_out (fun x h => (hout x h).elim) hlocks k3 k4 k5 (fun t ht _ => ⟨rfl, by rw [ht]; exact k1, fun q h => by rw [ht]; exact k2 q h⟩) (fun z h => nomatch h) (Nat.le_refl _) (Nat.le_refl _))

set_option maxHeartbeats 4000000 in
set_option maxRecDepth 100000 in
theorem t_P_cut_A (l : Launch) (hlt : l.stackTraces = false) (dC : Nat → ClassId) (dI : Nat → Nat → Nat) (ad : Nat → Nat) (k : Nat → ClassId) (P : PS) (F : Nat → Int32) (T : TS) (i j : Nat) (hw : T.w ≤ 12) (hi9 : i < T.w) (hj9 : j < T.w) (hro : P.rows < 12) (hn : i = j) : vx_Met l yP_cut wP_cut ({ frames := 7, cells := 1, slots := 6, locals := 112 }) (tPc [.ref (ad 7), .int (nI i), .int (nI j)] (dC, dI) vwCl (PW ad k P ++ (FW ad k F ++ TW ad k T)) (PK k ++ (FK k ++ TK k))) (fun _ _ _ _ => False) (xX (some eA)) 1 6 (fun _ => False) := by
  refine vx_ofW (cc := bP_cut) (maxL := 4) (ret := (some .int)) (by decide) rfl ?_
  intro p e s m args below meth c s₁ B hml hout hv
  obtain ⟨rfl, hP, hK, hX, hss, hzz⟩ := hv
  have hx := B.exec
  have hb := B.bytes
  have hr := B.returns
  have hts := atoms_spec (ws := wP_cut) B.pre
  have hta : ∀ w ∈ AW, w.before _ s = true := fun w h => hts w (List.mem_cons_of_mem _ h)
  have hown : s.vm.findClass RP = some m.cls := findClass_of_methodNamed B.named
  have hlocks := B.notSynchronized
  have hl := lv_entry ([.ref (ad 7), .int (nI i), .int (nI j)]) (n := 4) (Nat.le_of_ble_eq_true rfl)
  rw [lg_entry_eq]
  generalize (lg_sl ([.ref (ad 7), .int (nI i), .int (nI j)]) ++ List.replicate (4 - (lg_sl ([.ref (ad 7), .int (nI i), .int (nI j)])).length) Slot.unset).toArray = ls at hl ⊢
  have hl : lv_has ls 4 [(0, .ref (ad 7)), (1, .int (nI i)), (2, .int (nI j))] := hl
  refine lv_aload_n hx hb dP_cut_0 rfl (lv_at hl 0 rfl) ?_
  refine lv_iload_n hx hb dP_cut_1 rfl (lv_at hl 1 rfl) ?_
  refine rd_call (va_runV (As := [.int (nI i)]) (rest := []) ⟨hx, hb, hml, hown, hta⟩ (c_P_needColumn l dC dI ad k P F T i (by first | omega | assumption) (by first | omega | assumption)) (cwV 1 hta (gV m_296 m_298 mp_12 m_1 m_299) rfl rfl rfl (by decide +kernel) ⟨Nat.le_of_ble_eq_true rfl, Nat.le_of_ble_eq_true rfl⟩) (rd_V nW_ok hX hK hP (ci := 1) (q0 := 0) rfl rfl) rfl rfl hl.1 rfl (lv_room (Nat.le_of_ble_eq_true rfl)) dP_cut_2 ⟨Nat.zero_le _, Nat.zero_le _⟩) ?_
  refine W.eq (g2 := F0 m 5 ls []) rfl ?_
  refine lv_aload_n hx hb dP_cut_5 rfl (lv_at hl 0 rfl) ?_
  refine lv_iload_n hx hb dP_cut_6 rfl (lv_at hl 2 rfl) ?_
  refine rd_call (va_runV (As := [.int (nI j)]) (rest := []) ⟨hx, hb, hml, hown, hta⟩ (c_P_needColumn l dC dI ad k P F T j (by first | omega | assumption) (by first | omega | assumption)) (cwV 1 hta (gV m_296 m_298 mp_12 m_1 m_299) rfl rfl rfl (by decide +kernel) ⟨Nat.le_of_ble_eq_true rfl, Nat.le_of_ble_eq_true rfl⟩) (rd_V nW_ok hX hK hP (ci := 1) (q0 := 0) rfl rfl) rfl rfl hl.1 rfl (lv_room (Nat.le_of_ble_eq_true rfl)) dP_cut_7 ⟨Nat.zero_le _, Nat.zero_le _⟩) ?_
  refine W.eq (g2 := F0 m 10 ls []) rfl ?_
  refine lv_aload_n hx hb dP_cut_10 rfl (lv_at hl 0 rfl) ?_
  refine rd_call (va_runV (As := []) (rest := []) ⟨hx, hb, hml, hown, hta⟩ (c_P_needRoomForRow l dC dI ad k P F T (by first | omega | assumption)) (cwV 0 hta (gV m_251 m_253 mp_9 m_1 m_254) rfl rfl rfl (by decide +kernel) ⟨Nat.le_of_ble_eq_true rfl, Nat.le_of_ble_eq_true rfl⟩) (rd_V nW_ok hX hK hP (ci := 1) (q0 := 0) rfl rfl) rfl rfl hl.1 rfl (lv_room (Nat.le_of_ble_eq_true rfl)) dP_cut_11 ⟨Nat.zero_le _, Nat.zero_le _⟩) ?_
  refine W.eq (g2 := F0 m 14 ls []) rfl ?_
  refine lv_iload_n hx hb dP_cut_14 rfl (lv_at hl 1 rfl) ?_
  refine lv_iload_n hx hb dP_cut_15 rfl (lv_at hl 2 rfl) ?_
  refine ni_ne (tgt := 29) hx hb dP_cut_16 (by decide) (by omega) (by omega) (fun c_1 => ?_) (fun c_1 => ?_)
  · exfalso; omega
  · obtain ⟨sa, hsa⟩ := hss.1 (112, "both are one column") (by decide)
    exact vx_throwS (own := RP) (cls := eA) (text := "both are one column") (names := chN) (ik := 74) (is := 112) (ic := 78) (sa := sa) (A := fun _ => False) hx hb hlt hown fit_A ch_fit (hta _ m_220) (hta _ m_9) hsa (vx_hat (fun w h => hta w (at_A w h)) bt_A (fun w h => va_Nw.use (tB_on h) (hss.2.1 w h))) ot_A hzz.1 hzz.2 va_S.rf (hl.1.trans hml.symm) dP_cut_19 dP_cut_22 dP_cut_23 dP_cut_25 dP_cut_28 (fun x h => (hout x h).elim) (Nat.le_of_ble_eq_true rfl) (Nat.le_of_ble_eq_true rfl) (Nat.le_of_ble_eq_true rfl) (Nat.le_of_ble_eq_true rfl) hlocks (fun t _ h1 h2 => ⟨rfl, h1, h2⟩) (fun z h => nomatch h) (Nat.le_refl _) (Nat.le_refl _)

set_option maxHeartbeats 4000000 in
set_option maxRecDepth 100000 in
theorem t_P_right_I (l : Launch) (hlt : l.stackTraces = false) (dC : Nat → ClassId) (dI : Nat → Nat → Nat) (ad : Nat → Nat) (k : Nat → ClassId) (P : PS) (F : Nat → Int32) (T : TS) (x : Int32) (v : Int64) (hro : P.rows ≤ 12) (hn : idx P.rows x = none) : vx_Met l yP_right wP_right ({ frames := 7, cells := 1, slots := 6, locals := 112 }) (tPc [.ref (ad 7), .int x, .long v] (dC, dI) vwCl (PW ad k P ++ (FW ad k F ++ TW ad k T)) (PK k ++ (FK k ++ TK k))) (fun _ _ _ _ => False) (xX (some eI)) 1 6 (fun _ => False) := by
  refine vx_ofW (cc := bP_right) (maxL := 4) (ret := (some .boolean)) (by decide) rfl ?_
  intro p e s m args below meth c s₁ B hml hout hv
  obtain ⟨rfl, hP, hK, hX, hss, hzz⟩ := hv
  have hx := B.exec
  have hb := B.bytes
  have hr := B.returns
  have hts := atoms_spec (ws := wP_right) B.pre
  have hta : ∀ w ∈ AW, w.before _ s = true := fun w h => hts w (List.mem_cons_of_mem _ h)
  have hown : s.vm.findClass RP = some m.cls := findClass_of_methodNamed B.named
  have hlocks := B.notSynchronized
  have hl := lv_entry ([.ref (ad 7), .int x, .long v]) (n := 4) (Nat.le_of_ble_eq_true rfl)
  rw [lg_entry_eq]
  generalize (lg_sl ([.ref (ad 7), .int x, .long v]) ++ List.replicate (4 - (lg_sl ([.ref (ad 7), .int x, .long v])).length) Slot.unset).toArray = ls at hl ⊢
  have hl : lv_has ls 4 [(0, .ref (ad 7)), (1, .int x), (2, .long v)] := hl
  refine lv_aload_n hx hb dP_right_0 rfl (lv_at hl 0 rfl) ?_
  refine lv_iload_n hx hb dP_right_1 rfl (lv_at hl 1 rfl) ?_
  exact tx_call (vx_runV (As := [.int x]) (rest := []) ⟨hx, hb, hml, hown, hta⟩ (t_P_needRow_I l hlt dC dI ad k P F T x hro hn) (cwV 1 hta (gV m_276 m_278 mp_11 m_1 m_279) rfl rfl rfl (by decide +kernel) ⟨Nat.le_of_ble_eq_true rfl, Nat.le_of_ble_eq_true rfl⟩) (td_V hX hss hzz hK hP (ci := 1) (q0 := 0) rfl rfl) rfl rfl hl.1 rfl (lv_room (Nat.le_of_ble_eq_true rfl)) dP_right_2 ⟨Nat.le_of_ble_eq_true rfl, Nat.le_of_ble_eq_true rfl⟩) (fun ce q9 H1 k1 k2 k3 k4 k5 => vx_out (fun x h => (hout x h).elim) hlocks k3 k4 k5 (fun t ht _ => ⟨rfl, by rw [ht]; exact k1, fun q h => by rw [ht]; exact k2 q h⟩) (fun z h => nomatch h) (Nat.le_refl _) (Nat.le_refl _))

set_option maxHeartbeats 4000000 in
set_option maxRecDepth 100000 in
theorem t_P_right_A (l : Launch) (hlt : l.stackTraces = false) (dC : Nat → ClassId) (dI : Nat → Nat → Nat) (ad : Nat → Nat) (k : Nat → ClassId) (P : PS) (F : Nat → Int32) (T : TS) (r : Nat) (v : Int64) (hro : P.rows ≤ 12) (hr9 : r < P.rows) (hn : v < -1000000 ∨ 1000000 < v) : vx_Met l yP_right wP_right ({ frames := 7, cells := 1, slots := 6, locals := 112 }) (tPc [.ref (ad 7), .int (nI r), .long v] (dC, dI) vwCl (PW ad k P ++ (FW ad k F ++ TW ad k T)) (PK k ++ (FK k ++ TK k))) (fun _ _ _ _ => False) (xX (some eA)) 1 6 (fun _ => False) := by
  refine vx_ofW (cc := bP_right) (maxL := 4) (ret := (some .boolean)) (by decide) rfl ?_
  intro p e s m args below meth c s₁ B hml hout hv
  obtain ⟨rfl, hP, hK, hX, hss, hzz⟩ := hv
  have hx := B.exec
  have hb := B.bytes
  have hr := B.returns
  have hts := atoms_spec (ws := wP_right) B.pre
  have hta : ∀ w ∈ AW, w.before _ s = true := fun w h => hts w (List.mem_cons_of_mem _ h)
  have hown : s.vm.findClass RP = some m.cls := findClass_of_methodNamed B.named
  have hlocks := B.notSynchronized
  have hl := lv_entry ([.ref (ad 7), .int (nI r), .long v]) (n := 4) (Nat.le_of_ble_eq_true rfl)
  rw [lg_entry_eq]
  generalize (lg_sl ([.ref (ad 7), .int (nI r), .long v]) ++ List.replicate (4 - (lg_sl ([.ref (ad 7), .int (nI r), .long v])).length) Slot.unset).toArray = ls at hl ⊢
  have hl : lv_has ls 4 [(0, .ref (ad 7)), (1, .int (nI r)), (2, .long v)] := hl
  refine lv_aload_n hx hb dP_right_0 rfl (lv_at hl 0 rfl) ?_
  refine lv_iload_n hx hb dP_right_1 rfl (lv_at hl 1 rfl) ?_
  refine rd_call (va_runV (As := [.int (nI r)]) (rest := []) ⟨hx, hb, hml, hown, hta⟩ (c_P_needRow l dC dI ad k P F T r (by first | omega | assumption) (by first | omega | assumption)) (cwV 1 hta (gV m_276 m_278 mp_11 m_1 m_279) rfl rfl rfl (by decide +kernel) ⟨Nat.le_of_ble_eq_true rfl, Nat.le_of_ble_eq_true rfl⟩) (rd_V nW_ok hX hK hP (ci := 1) (q0 := 0) rfl rfl) rfl rfl hl.1 rfl (lv_room (Nat.le_of_ble_eq_true rfl)) dP_right_2 ⟨Nat.zero_le _, Nat.zero_le _⟩) ?_
  refine W.eq (g2 := F0 m 5 ls []) rfl ?_
  refine lv_lload_n hx hb dP_right_5 rfl (lv_at hl 2 rfl) ?_
  exact tx_call (vx_runS (As := [.long v]) (rest := []) ⟨hx, hb, hml, hown, hta⟩ (t_P_needRight_A l hlt dC dI ad k v hn) (cwS 1 hta (gS m_258 m_259 m_1 m_260) rfl rfl rfl (by decide +kernel) ⟨Nat.le_of_ble_eq_true rfl, Nat.le_of_ble_eq_true rfl⟩) (td_S hX hss hzz (hK.sub [] rfl) va_P_nil) rfl rfl hl.1 rfl (lv_room (Nat.le_of_ble_eq_true rfl)) dP_right_6 ⟨Nat.le_of_ble_eq_true rfl, Nat.le_of_ble_eq_true rfl⟩) (fun ce q9 H1 k1 k2 k3 k4 k5 => vx_out (fun x h => (hout x h).elim) hlocks k3 k4 k5 (fun t ht _ => ⟨rfl, by rw [ht]; exact k1, fun q h => by rw [ht]; exact k2 q h⟩) (fun z h => nomatch h) (Nat.le_refl _) (Nat.le_refl _))

set_option maxHeartbeats 4000000 in
set_option maxRecDepth 100000 in
theorem t_P_run_A (l : Launch) (hlt : l.stackTraces = false) (dC : Nat → ClassId) (dI : Nat → Nat → Nat) (ad : Nat → Nat) (k : Nat → ClassId) (P : PS) (F : Nat → Int32) (T : TS) (x : Int32) (hn : idx 1001 x = none) : vx_Met l yP_run wP_run ({ frames := 7, cells := 1, slots := 6, locals := 112 }) (tPc [.ref (ad 7), .int x] (dC, dI) vwCl (PW ad k P ++ (FW ad k F ++ TW ad k T)) (PK k ++ (FK k ++ TK k))) (fun _ _ _ _ => False) (xX (some eA)) 1 6 (fun _ => False) := by
  refine vx_ofW (cc := bP_run) (maxL := 2) (ret := (some .int)) (by decide) rfl ?_
  intro p e s m args below meth c s₁ B hml hout hv
  obtain ⟨rfl, hP, hK, hX, hss, hzz⟩ := hv
  have hx := B.exec
  have hb := B.bytes
  have hr := B.returns
  have hts := atoms_spec (ws := wP_run) B.pre
  have hta : ∀ w ∈ AW, w.before _ s = true := fun w h => hts w (List.mem_cons_of_mem _ h)
  have hown : s.vm.findClass RP = some m.cls := findClass_of_methodNamed B.named
  have hlocks := B.notSynchronized
  have hl := lv_entry ([.ref (ad 7), .int x]) (n := 2) (Nat.le_of_ble_eq_true rfl)
  rw [lg_entry_eq]
  generalize (lg_sl ([.ref (ad 7), .int x]) ++ List.replicate (2 - (lg_sl ([.ref (ad 7), .int x])).length) Slot.unset).toArray = ls at hl ⊢
  have hl : lv_has ls 2 [(0, .ref (ad 7)), (1, .int x)] := hl
  refine lv_iload_n hx hb dP_run_0 rfl (lv_at hl 1 rfl) ?_
  refine lv_if_lt (tgt := 11) hx hb dP_run_1 (by decide) (fun h1 => ?_) (fun h1 => ?_)
  · obtain ⟨sa, hsa⟩ := hss.1 (118, "no such number of steps") (by decide)
    exact vx_throwS (own := RP) (cls := eA) (text := "no such number of steps") (names := chN) (ik := 74) (is := 118) (ic := 78) (sa := sa) (A := fun _ => False) hx hb hlt hown fit_A ch_fit (hta _ m_220) (hta _ m_9) hsa (vx_hat (fun w h => hta w (at_A w h)) bt_A (fun w h => va_Nw.use (tB_on h) (hss.2.1 w h))) ot_A hzz.1 hzz.2 va_S.rf (hl.1.trans hml.symm) dP_run_11 dP_run_14 dP_run_15 dP_run_17 dP_run_20 (fun x h => (hout x h).elim) (Nat.le_of_ble_eq_true rfl) (Nat.le_of_ble_eq_true rfl) (Nat.le_of_ble_eq_true rfl) (Nat.le_of_ble_eq_true rfl) hlocks (fun t _ h1 h2 => ⟨rfl, h1, h2⟩) (fun z h => nomatch h) (Nat.le_refl _) (Nat.le_refl _)
  · refine lv_iload_n hx hb dP_run_4 rfl (lv_at hl 1 rfl) ?_
    refine lv_sipush (v := 1000) hx hb dP_run_5 (by decide) ?_
    refine li_le (tgt := 21) hx hb dP_run_8 (by decide) (fun h2 => ?_) (fun h2 => ?_)
    · exact (idx_nn hn (by omega) h1 (Int32.lt_iff_toInt_lt.mpr (by have h3 := Int32.not_lt.mp h2; rw [Int32.le_iff_toInt_le] at h3; have e9 : (1000 : Int32).toInt = 1000 := (by decide); have e8 : (nI 1001).toInt = 1001 := (by decide); omega))).elim
    · obtain ⟨sa, hsa⟩ := hss.1 (118, "no such number of steps") (by decide)
      exact vx_throwS (own := RP) (cls := eA) (text := "no such number of steps") (names := chN) (ik := 74) (is := 118) (ic := 78) (sa := sa) (A := fun _ => False) hx hb hlt hown fit_A ch_fit (hta _ m_220) (hta _ m_9) hsa (vx_hat (fun w h => hta w (at_A w h)) bt_A (fun w h => va_Nw.use (tB_on h) (hss.2.1 w h))) ot_A hzz.1 hzz.2 va_S.rf (hl.1.trans hml.symm) dP_run_11 dP_run_14 dP_run_15 dP_run_17 dP_run_20 (fun x h => (hout x h).elim) (Nat.le_of_ble_eq_true rfl) (Nat.le_of_ble_eq_true rfl) (Nat.le_of_ble_eq_true rfl) (Nat.le_of_ble_eq_true rfl) hlocks (fun t _ h1 h2 => ⟨rfl, h1, h2⟩) (fun z h => nomatch h) (Nat.le_refl _) (Nat.le_refl _)

set_option maxHeartbeats 4000000 in
set_option maxRecDepth 100000 in
theorem t_P_value_A (l : Launch) (hlt : l.stackTraces = false) (dC : Nat → ClassId) (dI : Nat → Nat → Nat) (ad : Nat → Nat) (k : Nat → ClassId) (P : PS) (F : Nat → Int32) (T : TS) (pt : Int32) (hn : ¬ (pt = 0 ∨ pt = 1)) : vx_Met l yP_value wP_value ({ frames := 7, cells := 1, slots := 6, locals := 112 }) (tPc [.ref (ad 7), .int pt] (dC, dI) vwCl (PW ad k P ++ (FW ad k F ++ TW ad k T)) (PK k ++ (FK k ++ TK k))) (fun _ _ _ _ => False) (xX (some eA)) 1 6 (fun _ => False) := by
  refine vx_ofW (cc := bP_value) (maxL := 2) (ret := (some .long)) (by decide) rfl ?_
  intro p e s m args below meth c s₁ B hml hout hv
  obtain ⟨rfl, hP, hK, hX, hss, hzz⟩ := hv
  have hx := B.exec
  have hb := B.bytes
  have hr := B.returns
  have hts := atoms_spec (ws := wP_value) B.pre
  have hta : ∀ w ∈ AW, w.before _ s = true := fun w h => hts w (List.mem_cons_of_mem _ h)
  have hown : s.vm.findClass RP = some m.cls := findClass_of_methodNamed B.named
  have hlocks := B.notSynchronized
  have hl := lv_entry ([.ref (ad 7), .int pt]) (n := 2) (Nat.le_of_ble_eq_true rfl)
  rw [lg_entry_eq]
  generalize (lg_sl ([.ref (ad 7), .int pt]) ++ List.replicate (2 - (lg_sl ([.ref (ad 7), .int pt])).length) Slot.unset).toArray = ls at hl ⊢
  have hl : lv_has ls 2 [(0, .ref (ad 7)), (1, .int pt)] := hl
  refine lv_iload_n hx hb dP_value_0 rfl (lv_at hl 1 rfl) ?_
  exact tx_call (vx_runS (As := [.int pt]) (rest := []) ⟨hx, hb, hml, hown, hta⟩ (t_P_needPart_A l hlt dC dI ad k pt hn) (cwS 1 hta (gS m_437 m_438 m_1 m_439) rfl rfl rfl (by decide +kernel) ⟨Nat.le_of_ble_eq_true rfl, Nat.le_of_ble_eq_true rfl⟩) (td_S hX hss hzz (hK.sub [] rfl) va_P_nil) rfl rfl hl.1 rfl (lv_room (Nat.le_of_ble_eq_true rfl)) dP_value_1 ⟨Nat.le_of_ble_eq_true rfl, Nat.le_of_ble_eq_true rfl⟩) (fun ce q9 H1 k1 k2 k3 k4 k5 => vx_out (fun x h => (hout x h).elim) hlocks k3 k4 k5 (fun t ht _ => ⟨rfl, by rw [ht]; exact k1, fun q h => by rw [ht]; exact k2 q h⟩) (fun z h => nomatch h) (Nat.le_refl _) (Nat.le_refl _))

set_option maxHeartbeats 4000000 in
set_option maxRecDepth 100000 in
theorem t_P_share_I (l : Launch) (hlt : l.stackTraces = false) (dC : Nat → ClassId) (dI : Nat → Nat → Nat) (ad : Nat → Nat) (k : Nat → ClassId) (P : PS) (F : Nat → Int32) (T : TS) (x pt : Int32) (hw : T.w ≤ 12) (hn : idx T.w x = none) : vx_Met l yP_share wP_share ({ frames := 7, cells := 1, slots := 6, locals := 112 }) (tPc [.ref (ad 7), .int x, .int pt] (dC, dI) vwCl (PW ad k P ++ (FW ad k F ++ TW ad k T)) (PK k ++ (FK k ++ TK k))) (fun _ _ _ _ => False) (xX (some eI)) 1 6 (fun _ => False) := by
  refine vx_ofW (cc := bP_share) (maxL := 3) (ret := (some .long)) (by decide) rfl ?_
  intro p e s m args below meth c s₁ B hml hout hv
  obtain ⟨rfl, hP, hK, hX, hss, hzz⟩ := hv
  have hx := B.exec
  have hb := B.bytes
  have hr := B.returns
  have hts := atoms_spec (ws := wP_share) B.pre
  have hta : ∀ w ∈ AW, w.before _ s = true := fun w h => hts w (List.mem_cons_of_mem _ h)
  have hown : s.vm.findClass RP = some m.cls := findClass_of_methodNamed B.named
  have hlocks := B.notSynchronized
  have hl := lv_entry ([.ref (ad 7), .int x, .int pt]) (n := 3) (Nat.le_of_ble_eq_true rfl)
  rw [lg_entry_eq]
  generalize (lg_sl ([.ref (ad 7), .int x, .int pt]) ++ List.replicate (3 - (lg_sl ([.ref (ad 7), .int x, .int pt])).length) Slot.unset).toArray = ls at hl ⊢
  have hl : lv_has ls 3 [(0, .ref (ad 7)), (1, .int x), (2, .int pt)] := hl
  refine lv_aload_n hx hb dP_share_0 rfl (lv_at hl 0 rfl) ?_
  refine lv_iload_n hx hb dP_share_1 rfl (lv_at hl 1 rfl) ?_
  exact tx_call (vx_runV (As := [.int x]) (rest := []) ⟨hx, hb, hml, hown, hta⟩ (t_P_needColumn_I l hlt dC dI ad k P F T x hw hn) (cwV 1 hta (gV m_296 m_298 mp_12 m_1 m_299) rfl rfl rfl (by decide +kernel) ⟨Nat.le_of_ble_eq_true rfl, Nat.le_of_ble_eq_true rfl⟩) (td_V hX hss hzz hK hP (ci := 1) (q0 := 0) rfl rfl) rfl rfl hl.1 rfl (lv_room (Nat.le_of_ble_eq_true rfl)) dP_share_2 ⟨Nat.le_of_ble_eq_true rfl, Nat.le_of_ble_eq_true rfl⟩) (fun ce q9 H1 k1 k2 k3 k4 k5 => vx_out (fun x h => (hout x h).elim) hlocks k3 k4 k5 (fun t ht _ => ⟨rfl, by rw [ht]; exact k1, fun q h => by rw [ht]; exact k2 q h⟩) (fun z h => nomatch h) (Nat.le_refl _) (Nat.le_refl _))

set_option maxHeartbeats 4000000 in
set_option maxRecDepth 100000 in
theorem t_P_share_A (l : Launch) (hlt : l.stackTraces = false) (dC : Nat → ClassId) (dI : Nat → Nat → Nat) (ad : Nat → Nat) (k : Nat → ClassId) (P : PS) (F : Nat → Int32) (T : TS) (j : Nat) (pt : Int32) (hw : T.w ≤ 12) (hj9 : j < T.w) (hn : ¬ (pt = 0 ∨ pt = 1)) : vx_Met l yP_share wP_share ({ frames := 7, cells := 1, slots := 6, locals := 112 }) (tPc [.ref (ad 7), .int (nI j), .int pt] (dC, dI) vwCl (PW ad k P ++ (FW ad k F ++ TW ad k T)) (PK k ++ (FK k ++ TK k))) (fun _ _ _ _ => False) (xX (some eA)) 1 6 (fun _ => False) := by
  refine vx_ofW (cc := bP_share) (maxL := 3) (ret := (some .long)) (by decide) rfl ?_
  intro p e s m args below meth c s₁ B hml hout hv
  obtain ⟨rfl, hP, hK, hX, hss, hzz⟩ := hv
  have hx := B.exec
  have hb := B.bytes
  have hr := B.returns
  have hts := atoms_spec (ws := wP_share) B.pre
  have hta : ∀ w ∈ AW, w.before _ s = true := fun w h => hts w (List.mem_cons_of_mem _ h)
  have hown : s.vm.findClass RP = some m.cls := findClass_of_methodNamed B.named
  have hlocks := B.notSynchronized
  have hl := lv_entry ([.ref (ad 7), .int (nI j), .int pt]) (n := 3) (Nat.le_of_ble_eq_true rfl)
  rw [lg_entry_eq]
  generalize (lg_sl ([.ref (ad 7), .int (nI j), .int pt]) ++ List.replicate (3 - (lg_sl ([.ref (ad 7), .int (nI j), .int pt])).length) Slot.unset).toArray = ls at hl ⊢
  have hl : lv_has ls 3 [(0, .ref (ad 7)), (1, .int (nI j)), (2, .int pt)] := hl
  refine lv_aload_n hx hb dP_share_0 rfl (lv_at hl 0 rfl) ?_
  refine lv_iload_n hx hb dP_share_1 rfl (lv_at hl 1 rfl) ?_
  refine rd_call (va_runV (As := [.int (nI j)]) (rest := []) ⟨hx, hb, hml, hown, hta⟩ (c_P_needColumn l dC dI ad k P F T j (by first | omega | assumption) (by first | omega | assumption)) (cwV 1 hta (gV m_296 m_298 mp_12 m_1 m_299) rfl rfl rfl (by decide +kernel) ⟨Nat.le_of_ble_eq_true rfl, Nat.le_of_ble_eq_true rfl⟩) (rd_V nW_ok hX hK hP (ci := 1) (q0 := 0) rfl rfl) rfl rfl hl.1 rfl (lv_room (Nat.le_of_ble_eq_true rfl)) dP_share_2 ⟨Nat.zero_le _, Nat.zero_le _⟩) ?_
  refine W.eq (g2 := F0 m 5 ls []) rfl ?_
  refine lv_iload_n hx hb dP_share_5 rfl (lv_at hl 2 rfl) ?_
  exact tx_call (vx_runS (As := [.int pt]) (rest := []) ⟨hx, hb, hml, hown, hta⟩ (t_P_needPart_A l hlt dC dI ad k pt hn) (cwS 1 hta (gS m_437 m_438 m_1 m_439) rfl rfl rfl (by decide +kernel) ⟨Nat.le_of_ble_eq_true rfl, Nat.le_of_ble_eq_true rfl⟩) (td_S hX hss hzz (hK.sub [] rfl) va_P_nil) rfl rfl hl.1 rfl (lv_room (Nat.le_of_ble_eq_true rfl)) dP_share_6 ⟨Nat.le_of_ble_eq_true rfl, Nat.le_of_ble_eq_true rfl⟩) (fun ce q9 H1 k1 k2 k3 k4 k5 => vx_out (fun x h => (hout x h).elim) hlocks k3 k4 k5 (fun t ht _ => ⟨rfl, by rw [ht]; exact k1, fun q h => by rw [ht]; exact k2 q h⟩) (fun z h => nomatch h) (Nat.le_refl _) (Nat.le_refl _))

set_option maxHeartbeats 4000000 in
set_option maxRecDepth 100000 in
theorem t_P_dual_I (l : Launch) (hlt : l.stackTraces = false) (dC : Nat → ClassId) (dI : Nat → Nat → Nat) (ad : Nat → Nat) (k : Nat → ClassId) (P : PS) (F : Nat → Int32) (T : TS) (x pt : Int32) (hro : P.rows ≤ 12) (hn : idx P.rows x = none) : vx_Met l yP_dual wP_dual ({ frames := 7, cells := 1, slots := 6, locals := 112 }) (tPc [.ref (ad 7), .int x, .int pt] (dC, dI) vwCl (PW ad k P ++ (FW ad k F ++ TW ad k T)) (PK k ++ (FK k ++ TK k))) (fun _ _ _ _ => False) (xX (some eI)) 1 6 (fun _ => False) := by
  refine vx_ofW (cc := bP_dual) (maxL := 6) (ret := (some .long)) (by decide) rfl ?_
  intro p e s m args below meth c s₁ B hml hout hv
  obtain ⟨rfl, hP, hK, hX, hss, hzz⟩ := hv
  have hx := B.exec
  have hb := B.bytes
  have hr := B.returns
  have hts := atoms_spec (ws := wP_dual) B.pre
  have hta : ∀ w ∈ AW, w.before _ s = true := fun w h => hts w (List.mem_cons_of_mem _ h)
  have hown : s.vm.findClass RP = some m.cls := findClass_of_methodNamed B.named
  have hlocks := B.notSynchronized
  have hl := lv_entry ([.ref (ad 7), .int x, .int pt]) (n := 6) (Nat.le_of_ble_eq_true rfl)
  rw [lg_entry_eq]
  generalize (lg_sl ([.ref (ad 7), .int x, .int pt]) ++ List.replicate (6 - (lg_sl ([.ref (ad 7), .int x, .int pt])).length) Slot.unset).toArray = ls at hl ⊢
  have hl : lv_has ls 6 [(0, .ref (ad 7)), (1, .int x), (2, .int pt)] := hl
  refine lv_aload_n hx hb dP_dual_0 rfl (lv_at hl 0 rfl) ?_
  refine lv_iload_n hx hb dP_dual_1 rfl (lv_at hl 1 rfl) ?_
  exact tx_call (vx_runV (As := [.int x]) (rest := []) ⟨hx, hb, hml, hown, hta⟩ (t_P_needRow_I l hlt dC dI ad k P F T x hro hn) (cwV 1 hta (gV m_276 m_278 mp_11 m_1 m_279) rfl rfl rfl (by decide +kernel) ⟨Nat.le_of_ble_eq_true rfl, Nat.le_of_ble_eq_true rfl⟩) (td_V hX hss hzz hK hP (ci := 1) (q0 := 0) rfl rfl) rfl rfl hl.1 rfl (lv_room (Nat.le_of_ble_eq_true rfl)) dP_dual_2 ⟨Nat.le_of_ble_eq_true rfl, Nat.le_of_ble_eq_true rfl⟩) (fun ce q9 H1 k1 k2 k3 k4 k5 => vx_out (fun x h => (hout x h).elim) hlocks k3 k4 k5 (fun t ht _ => ⟨rfl, by rw [ht]; exact k1, fun q h => by rw [ht]; exact k2 q h⟩) (fun z h => nomatch h) (Nat.le_refl _) (Nat.le_refl _))

set_option maxHeartbeats 4000000 in
set_option maxRecDepth 100000 in
theorem t_P_factorOf_I (l : Launch) (hlt : l.stackTraces = false) (dC : Nat → ClassId) (dI : Nat → Nat → Nat) (ad : Nat → Nat) (k : Nat → ClassId) (P : PS) (F : Nat → Int32) (T : TS) (x pt : Int32) (hro : P.rows ≤ 12) (hn : idx P.rows x = none) : vx_Met l yP_factorOf wP_factorOf ({ frames := 7, cells := 1, slots := 6, locals := 112 }) (tPc [.ref (ad 7), .int x, .int pt] (dC, dI) vwCl (PW ad k P ++ (FW ad k F ++ TW ad k T)) (PK k ++ (FK k ++ TK k))) (fun _ _ _ _ => False) (xX (some eI)) 1 6 (fun _ => False) := by
  refine vx_ofW (cc := bP_factorOf) (maxL := 7) (ret := (some .long)) (by decide) rfl ?_
  intro p e s m args below meth c s₁ B hml hout hv
  obtain ⟨rfl, hP, hK, hX, hss, hzz⟩ := hv
  have hx := B.exec
  have hb := B.bytes
  have hr := B.returns
  have hts := atoms_spec (ws := wP_factorOf) B.pre
  have hta : ∀ w ∈ AW, w.before _ s = true := fun w h => hts w (List.mem_cons_of_mem _ h)
  have hown : s.vm.findClass RP = some m.cls := findClass_of_methodNamed B.named
  have hlocks := B.notSynchronized
  have hl := lv_entry ([.ref (ad 7), .int x, .int pt]) (n := 7) (Nat.le_of_ble_eq_true rfl)
  rw [lg_entry_eq]
  generalize (lg_sl ([.ref (ad 7), .int x, .int pt]) ++ List.replicate (7 - (lg_sl ([.ref (ad 7), .int x, .int pt])).length) Slot.unset).toArray = ls at hl ⊢
  have hl : lv_has ls 7 [(0, .ref (ad 7)), (1, .int x), (2, .int pt)] := hl
  refine lv_aload_n hx hb dP_factorOf_0 rfl (lv_at hl 0 rfl) ?_
  refine lv_iload_n hx hb dP_factorOf_1 rfl (lv_at hl 1 rfl) ?_
  exact tx_call (vx_runV (As := [.int x]) (rest := []) ⟨hx, hb, hml, hown, hta⟩ (t_P_needRow_I l hlt dC dI ad k P F T x hro hn) (cwV 1 hta (gV m_276 m_278 mp_11 m_1 m_279) rfl rfl rfl (by decide +kernel) ⟨Nat.le_of_ble_eq_true rfl, Nat.le_of_ble_eq_true rfl⟩) (td_V hX hss hzz hK hP (ci := 1) (q0 := 0) rfl rfl) rfl rfl hl.1 rfl (lv_room (Nat.le_of_ble_eq_true rfl)) dP_factorOf_2 ⟨Nat.le_of_ble_eq_true rfl, Nat.le_of_ble_eq_true rfl⟩) (fun ce q9 H1 k1 k2 k3 k4 k5 => vx_out (fun x h => (hout x h).elim) hlocks k3 k4 k5 (fun t ht _ => ⟨rfl, by rw [ht]; exact k1, fun q h => by rw [ht]; exact k2 q h⟩) (fun z h => nomatch h) (Nat.le_refl _) (Nat.le_refl _))

set_option maxHeartbeats 4000000 in
set_option maxRecDepth 100000 in
theorem t_P_dual_A (l : Launch) (hlt : l.stackTraces = false) (dC : Nat → ClassId) (dI : Nat → Nat → Nat) (ad : Nat → Nat) (k : Nat → ClassId) (P : PS) (F : Nat → Int32) (T : TS) (r : Nat) (pt : Int32) (hro : P.rows ≤ 12) (hr9 : r < P.rows) (hn : ¬ (pt = 0 ∨ pt = 1)) : vx_Met l yP_dual wP_dual ({ frames := 7, cells := 1, slots := 6, locals := 112 }) (tPc [.ref (ad 7), .int (nI r), .int pt] (dC, dI) vwCl (PW ad k P ++ (FW ad k F ++ TW ad k T)) (PK k ++ (FK k ++ TK k))) (fun _ _ _ _ => False) (xX (some eA)) 1 6 (fun _ => False) := by
  refine vx_ofW (cc := bP_dual) (maxL := 6) (ret := (some .long)) (by decide) rfl ?_
  intro p e s m args below meth c s₁ B hml hout hv
  obtain ⟨rfl, hP, hK, hX, hss, hzz⟩ := hv
  have hx := B.exec
  have hb := B.bytes
  have hr := B.returns
  have hts := atoms_spec (ws := wP_dual) B.pre
  have hta : ∀ w ∈ AW, w.before _ s = true := fun w h => hts w (List.mem_cons_of_mem _ h)
  have hown : s.vm.findClass RP = some m.cls := findClass_of_methodNamed B.named
  have hlocks := B.notSynchronized
  have hl := lv_entry ([.ref (ad 7), .int (nI r), .int pt]) (n := 6) (Nat.le_of_ble_eq_true rfl)
  rw [lg_entry_eq]
  generalize (lg_sl ([.ref (ad 7), .int (nI r), .int pt]) ++ List.replicate (6 - (lg_sl ([.ref (ad 7), .int (nI r), .int pt])).length) Slot.unset).toArray = ls at hl ⊢
  have hl : lv_has ls 6 [(0, .ref (ad 7)), (1, .int (nI r)), (2, .int pt)] := hl
  refine lv_aload_n hx hb dP_dual_0 rfl (lv_at hl 0 rfl) ?_
  refine lv_iload_n hx hb dP_dual_1 rfl (lv_at hl 1 rfl) ?_
  refine rd_call (va_runV (As := [.int (nI r)]) (rest := []) ⟨hx, hb, hml, hown, hta⟩ (c_P_needRow l dC dI ad k P F T r (by first | omega | assumption) (by first | omega | assumption)) (cwV 1 hta (gV m_276 m_278 mp_11 m_1 m_279) rfl rfl rfl (by decide +kernel) ⟨Nat.le_of_ble_eq_true rfl, Nat.le_of_ble_eq_true rfl⟩) (rd_V nW_ok hX hK hP (ci := 1) (q0 := 0) rfl rfl) rfl rfl hl.1 rfl (lv_room (Nat.le_of_ble_eq_true rfl)) dP_dual_2 ⟨Nat.zero_le _, Nat.zero_le _⟩) ?_
  refine W.eq (g2 := F0 m 5 ls []) rfl ?_
  refine lv_iload_n hx hb dP_dual_5 rfl (lv_at hl 2 rfl) ?_
  exact tx_call (vx_runS (As := [.int pt]) (rest := []) ⟨hx, hb, hml, hown, hta⟩ (t_P_needPart_A l hlt dC dI ad k pt hn) (cwS 1 hta (gS m_437 m_438 m_1 m_439) rfl rfl rfl (by decide +kernel) ⟨Nat.le_of_ble_eq_true rfl, Nat.le_of_ble_eq_true rfl⟩) (td_S hX hss hzz (hK.sub [] rfl) va_P_nil) rfl rfl hl.1 rfl (lv_room (Nat.le_of_ble_eq_true rfl)) dP_dual_6 ⟨Nat.le_of_ble_eq_true rfl, Nat.le_of_ble_eq_true rfl⟩) (fun ce q9 H1 k1 k2 k3 k4 k5 => vx_out (fun x h => (hout x h).elim) hlocks k3 k4 k5 (fun t ht _ => ⟨rfl, by rw [ht]; exact k1, fun q h => by rw [ht]; exact k2 q h⟩) (fun z h => nomatch h) (Nat.le_refl _) (Nat.le_refl _))

set_option maxHeartbeats 4000000 in
set_option maxRecDepth 100000 in
theorem t_P_factorOf_S (l : Launch) (hlt : l.stackTraces = false) (dC : Nat → ClassId) (dI : Nat → Nat → Nat) (ad : Nat → Nat) (k : Nat → ClassId) (P : PS) (F : Nat → Int32) (T : TS) (r : Nat) (pt : Int32) (hro : P.rows ≤ 12) (hr9 : r < P.rows) (hn : ¬ P.lat = 1) : vx_Met l yP_factorOf wP_factorOf ({ frames := 7, cells := 1, slots := 6, locals := 112 }) (tPc [.ref (ad 7), .int (nI r), .int pt] (dC, dI) vwCl (PW ad k P ++ (FW ad k F ++ TW ad k T)) (PK k ++ (FK k ++ TK k))) (fun _ _ _ _ => False) (xX (some eS)) 1 6 (fun _ => False) := by
  refine vx_ofW (cc := bP_factorOf) (maxL := 7) (ret := (some .long)) (by decide) rfl ?_
  intro p e s m args below meth c s₁ B hml hout hv
  obtain ⟨rfl, hP, hK, hX, hss, hzz⟩ := hv
  have hx := B.exec
  have hb := B.bytes
  have hr := B.returns
  have hts := atoms_spec (ws := wP_factorOf) B.pre
  have hta : ∀ w ∈ AW, w.before _ s = true := fun w h => hts w (List.mem_cons_of_mem _ h)
  have hown : s.vm.findClass RP = some m.cls := findClass_of_methodNamed B.named
  have hlocks := B.notSynchronized
  have hl := lv_entry ([.ref (ad 7), .int (nI r), .int pt]) (n := 7) (Nat.le_of_ble_eq_true rfl)
  rw [lg_entry_eq]
  generalize (lg_sl ([.ref (ad 7), .int (nI r), .int pt]) ++ List.replicate (7 - (lg_sl ([.ref (ad 7), .int (nI r), .int pt])).length) Slot.unset).toArray = ls at hl ⊢
  have hl : lv_has ls 7 [(0, .ref (ad 7)), (1, .int (nI r)), (2, .int pt)] := hl
  refine lv_aload_n hx hb dP_factorOf_0 rfl (lv_at hl 0 rfl) ?_
  refine lv_iload_n hx hb dP_factorOf_1 rfl (lv_at hl 1 rfl) ?_
  refine rd_call (va_runV (As := [.int (nI r)]) (rest := []) ⟨hx, hb, hml, hown, hta⟩ (c_P_needRow l dC dI ad k P F T r (by first | omega | assumption) (by first | omega | assumption)) (cwV 1 hta (gV m_276 m_278 mp_11 m_1 m_279) rfl rfl rfl (by decide +kernel) ⟨Nat.le_of_ble_eq_true rfl, Nat.le_of_ble_eq_true rfl⟩) (rd_V nW_ok hX hK hP (ci := 1) (q0 := 0) rfl rfl) rfl rfl hl.1 rfl (lv_room (Nat.le_of_ble_eq_true rfl)) dP_factorOf_2 ⟨Nat.zero_le _, Nat.zero_le _⟩) ?_
  refine W.eq (g2 := F0 m 5 ls []) rfl ?_
  refine lv_aload_n hx hb dP_factorOf_5 rfl (lv_at hl 0 rfl) ?_
  refine va_get (D := (dC, dI)) (ci := 1) (v := .int P.lat) (C := RP) (T := FP) (N := 12) hx hb hta iP hown hK hP 0 rfl rfl 11 (by decide) (hta _ m_74) (fun _ h9 => h9) rfl dP_factorOf_6 ?_
  refine lv_iconst (v := 1) hx hb dP_factorOf_9 (by decide) ?_
  refine lv_icmp_eq (tgt := 23) hx hb dP_factorOf_10 (by decide) (fun h1 => ?_) (fun h1 => ?_)
  · exact absurd h1 hn
  · obtain ⟨sa, hsa⟩ := hss.1 (159, "the latest run told no contradiction") (by decide)
    exact vx_throwS (own := RP) (cls := eS) (text := "the latest run told no contradiction") (names := chN) (ik := 65) (is := 159) (ic := 69) (sa := sa) (A := fun _ => False) hx hb hlt hown fit_S ch_fit (hta _ m_151) (hta _ m_8) hsa (vx_hat (fun w h => hta w (at_S w h)) bt_S (fun w h => va_Nw.use (tB_on h) (hss.2.1 w h))) ot_S hzz.1 hzz.2 va_S.rf (hl.1.trans hml.symm) dP_factorOf_13 dP_factorOf_16 dP_factorOf_17 dP_factorOf_19 dP_factorOf_22 (fun x h => (hout x h).elim) (Nat.le_of_ble_eq_true rfl) (Nat.le_of_ble_eq_true rfl) (Nat.le_of_ble_eq_true rfl) (Nat.le_of_ble_eq_true rfl) hlocks (fun t _ h1 h2 => ⟨rfl, h1, h2⟩) (fun z h => nomatch h) (Nat.le_refl _) (Nat.le_refl _)

set_option maxHeartbeats 4000000 in
set_option maxRecDepth 100000 in
theorem t_P_factorOf_A (l : Launch) (hlt : l.stackTraces = false) (dC : Nat → ClassId) (dI : Nat → Nat → Nat) (ad : Nat → Nat) (k : Nat → ClassId) (P : PS) (F : Nat → Int32) (T : TS) (r : Nat) (pt : Int32) (hro : P.rows ≤ 12) (hr9 : r < P.rows) (hla : P.lat = 1) (hn : ¬ (pt = 0 ∨ pt = 1)) : vx_Met l yP_factorOf wP_factorOf ({ frames := 7, cells := 1, slots := 6, locals := 112 }) (tPc [.ref (ad 7), .int (nI r), .int pt] (dC, dI) vwCl (PW ad k P ++ (FW ad k F ++ TW ad k T)) (PK k ++ (FK k ++ TK k))) (fun _ _ _ _ => False) (xX (some eA)) 1 6 (fun _ => False) := by
  refine vx_ofW (cc := bP_factorOf) (maxL := 7) (ret := (some .long)) (by decide) rfl ?_
  intro p e s m args below meth c s₁ B hml hout hv
  obtain ⟨rfl, hP, hK, hX, hss, hzz⟩ := hv
  have hx := B.exec
  have hb := B.bytes
  have hr := B.returns
  have hts := atoms_spec (ws := wP_factorOf) B.pre
  have hta : ∀ w ∈ AW, w.before _ s = true := fun w h => hts w (List.mem_cons_of_mem _ h)
  have hown : s.vm.findClass RP = some m.cls := findClass_of_methodNamed B.named
  have hlocks := B.notSynchronized
  have hl := lv_entry ([.ref (ad 7), .int (nI r), .int pt]) (n := 7) (Nat.le_of_ble_eq_true rfl)
  rw [lg_entry_eq]
  generalize (lg_sl ([.ref (ad 7), .int (nI r), .int pt]) ++ List.replicate (7 - (lg_sl ([.ref (ad 7), .int (nI r), .int pt])).length) Slot.unset).toArray = ls at hl ⊢
  have hl : lv_has ls 7 [(0, .ref (ad 7)), (1, .int (nI r)), (2, .int pt)] := hl
  refine lv_aload_n hx hb dP_factorOf_0 rfl (lv_at hl 0 rfl) ?_
  refine lv_iload_n hx hb dP_factorOf_1 rfl (lv_at hl 1 rfl) ?_
  refine rd_call (va_runV (As := [.int (nI r)]) (rest := []) ⟨hx, hb, hml, hown, hta⟩ (c_P_needRow l dC dI ad k P F T r (by first | omega | assumption) (by first | omega | assumption)) (cwV 1 hta (gV m_276 m_278 mp_11 m_1 m_279) rfl rfl rfl (by decide +kernel) ⟨Nat.le_of_ble_eq_true rfl, Nat.le_of_ble_eq_true rfl⟩) (rd_V nW_ok hX hK hP (ci := 1) (q0 := 0) rfl rfl) rfl rfl hl.1 rfl (lv_room (Nat.le_of_ble_eq_true rfl)) dP_factorOf_2 ⟨Nat.zero_le _, Nat.zero_le _⟩) ?_
  refine W.eq (g2 := F0 m 5 ls []) rfl ?_
  refine lv_aload_n hx hb dP_factorOf_5 rfl (lv_at hl 0 rfl) ?_
  refine va_get (D := (dC, dI)) (ci := 1) (v := .int P.lat) (C := RP) (T := FP) (N := 12) hx hb hta iP hown hK hP 0 rfl rfl 11 (by decide) (hta _ m_74) (fun _ h9 => h9) rfl dP_factorOf_6 ?_
  refine lv_iconst (v := 1) hx hb dP_factorOf_9 (by decide) ?_
  refine lv_icmp_eq (tgt := 23) hx hb dP_factorOf_10 (by decide) (fun h1 => ?_) (fun h1 => ?_)
  · refine lv_iload_n hx hb dP_factorOf_23 rfl (lv_at hl 2 rfl) ?_
    exact tx_call (vx_runS (As := [.int pt]) (rest := []) ⟨hx, hb, hml, hown, hta⟩ (t_P_needPart_A l hlt dC dI ad k pt hn) (cwS 1 hta (gS m_437 m_438 m_1 m_439) rfl rfl rfl (by decide +kernel) ⟨Nat.le_of_ble_eq_true rfl, Nat.le_of_ble_eq_true rfl⟩) (td_S hX hss hzz (hK.sub [] rfl) va_P_nil) rfl rfl hl.1 rfl (lv_room (Nat.le_of_ble_eq_true rfl)) dP_factorOf_24 ⟨Nat.le_of_ble_eq_true rfl, Nat.le_of_ble_eq_true rfl⟩) (fun ce q9 H1 k1 k2 k3 k4 k5 => vx_out (fun x h => (hout x h).elim) hlocks k3 k4 k5 (fun t ht _ => ⟨rfl, by rw [ht]; exact k1, fun q h => by rw [ht]; exact k2 q h⟩) (fun z h => nomatch h) (Nat.le_refl _) (Nat.le_refl _))
  · exact absurd hla h1
