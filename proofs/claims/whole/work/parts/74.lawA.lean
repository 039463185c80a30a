set_option maxHeartbeats 4000000 in
set_option maxRecDepth 100000 in
theorem op_column {p : Program} {e : Env} {s : State} {m : MethodId} {below : List Frame} {meth : Method} {c : Code} (l : Launch) (hlt : l.stackTraces = false) {b L : Nat} {xs : Nat → Int32} (hL : L ≤ 2561) (C0 : lw_At p s m meth c b L xs) (dC : Nat → ClassId) (dI : Nat → Nat → Nat) (hX : nW s) (hss : sW s) (hzA : zA s) (ad : Nat → Nat) (k : Nat → ClassId) (oa : Nat) (ko : ClassId) (mo : Nat → Nat) (km : Nat → ClassId) (hK : va_K (dC, dI) vwCl (MK km ++ (OQ ko ++ (PK k ++ (FK k ++ TK k)))) s) (P : PS) (F : Nat → Int32) (T : TS) (M : MS) (o : Nat → Int64) (H : Heap) (locs : List Loc) (ls : Array Slot) (cells slots i : Nat) (Re : Rel P F T M) (hi : i + 5 ≤ L) (hP : va_P (dC, dI) vwCl (MW mo km M ++ (OW oa ko o ++ (PW ad k P ++ (FW ad k F ++ TW ad k T)))) H) (hD : va_D (fun q : Nat => s.heap.size ≤ q) (MW mo km M ++ (OW oa ko o ++ (PW ad k P ++ (FW ad k F ++ TW ad k T))))) (hS : va_S (fun q : Nat => s.heap.size ≤ q) s.heap H locs) (hl : lv_has ls 8 [(4, .int (nI i)), (0, .ref b), (1, .ref (ad 7)), (2, .ref (mo 0)), (3, .ref oa)]) (hc1 : cells + 1 ≤ room_1.cells) (hc2 : slots + 6 ≤ room_1.slots) (kk : ∀ (P : PS) (F : Nat → Int32) (T : TS) (M : MS) (o : Nat → Int64) (H : Heap) (locs : List Loc) (ls : Array Slot), Rel P F T M → va_P (dC, dI) vwCl (MW mo km M ++ (OW oa ko o ++ (PW ad k P ++ (FW ad k F ++ TW ad k T)))) H → va_D (fun q : Nat => s.heap.size ≤ q) (MW mo km M ++ (OW oa ko o ++ (PW ad k P ++ (FW ad k F ++ TW ad k T)))) → va_S (fun q : Nat => s.heap.size ≤ q) s.heap H locs → lv_has ls 8 [(4, .int (nI i)), (0, .ref b), (1, .ref (ad 7)), (2, .ref (mo 0)), (3, .ref oa)] → W p l e room_1 s m #[Value.ref b] below meth c H locs (cells + 1) (slots + 6) (lw_Z below #[Value.ref b] s) (F0 m 934 ls [])) : W p l e room_1 s m #[Value.ref b] below meth c H locs cells slots (lw_Z below #[Value.ref b] s) (F0 m 116 ls []) := by
  obtain ⟨hx, hb, hr, hml, hown, hts, hX0, hbl, hlocks, hgv⟩ := id C0
  have hown : s.vm.findClass RL = some m.cls := hown
  have hta : ∀ w ∈ AW, w.before #[Value.ref b] s = true := fun w h => hts w (AW_in h)
  have hA : ∀ q : Nat, s.heap.size ≤ q → (fun q : Nat => s.heap.size ≤ q) q := fun _ h => h
  have hbA : ¬ (fun q : Nat => s.heap.size ≤ q) b := Nat.not_le.mpr hbl
  obtain ⟨g1, g2, g3, g4, g5, g6, g7, g8, g9, g10, g11, g12⟩ := Re.lim
  refine lv_aload_n hx hb dL_law_116 rfl (lv_at hl 2 rfl) ?_
  refine lv_aload_n hx hb dL_law_117 rfl (lv_at hl 1 rfl) ?_
  refine lv_iload hx hb dL_law_118 (lv_at hl 0 rfl) ?_
  refine lv_iconst (v := nI 1) hx hb dL_law_120 (by decide) ?_
  refine lv_iadd hx hb dL_law_121 ?_
  refine st_i (y := nI (i + 1)) (nI_add _ _) ?_
  refine la_sld hx hb hX0 hbl hbA hS (i := (i + 1)) (by omega) (by omega) dL_law_122 ?_
  refine lv_i2l (v := (xs (i + 1)).toInt64) hx hb dL_law_123 rfl ?_
  refine lv_bipush (v := nI 32) hx hb dL_law_124 (by decide) ?_
  refine lv_lshl (v := ((xs (i + 1)).toInt64) <<< ((nI 32).toInt64 &&& 63)) hx hb dL_law_126 rfl ?_
  refine lv_aload_n hx hb dL_law_127 rfl (lv_at hl 1 rfl) ?_
  refine lv_iload hx hb dL_law_128 (lv_at hl 0 rfl) ?_
  refine lv_iconst (v := nI 2) hx hb dL_law_130 (by decide) ?_
  refine lv_iadd hx hb dL_law_131 ?_
  refine st_i (y := nI (i + 2)) (nI_add _ _) ?_
  refine la_sld hx hb hX0 hbl hbA hS (i := (i + 2)) (by omega) (by omega) dL_law_132 ?_
  refine lv_i2l (v := (xs (i + 2)).toInt64) hx hb dL_law_133 rfl ?_
  refine lv_ldc2 (v := 4294967295) hx hb hown (hta _ m_676) dL_law_134 ?_
  refine lv_land hx hb dL_law_137 ?_
  refine lv_lor hx hb dL_law_138 ?_
  refine st_l (y := lgA xs (i + 1)) (rfl) ?_
  refine lv_aload_n hx hb dL_law_139 rfl (lv_at hl 4 rfl) ?_
  have hzH := zA_W hzA hS
  refine wr_call (X := MW mo km M) (vx_va (vx_runSX (As := [.ref (ad 7), .long (lgA xs (i + 1)), .ref oa]) (rest := []) ⟨hx, hb, hml, hown, hta⟩ (h_L_column l hlt dC dI ad k oa ko o P F T H.size (lgA xs (i + 1)) g3 g4 g5 g6) (vx_cwSW 3 hta (gH m_142 m_143 m_0 m_144) rfl rfl rfl (by decide +kernel) ⟨Nat.le_of_ble_eq_true rfl, Nat.le_of_ble_eq_true rfl⟩) (hd_S hX hss hzH (hK.sub [10, 11, 12, 13, 14, 15, 16, 17, 18, 19, 20] rfl) (hP.sub [11, 12, 13, 14, 15, 16, 17, 18, 19, 20, 21, 22, 23] rfl) (hD.sub [11, 12, 13, 14, 15, 16, 17, 18, 19, 20, 21, 22, 23] (by decide) rfl)) rfl rfl hl.1 rfl (lv_room (Nat.le_of_ble_eq_true rfl)) dL_law_140 ⟨by omega, by omega⟩)) hP hD hS hA rfl (fun H locs hP hD hS => ?_)
  have hP : va_P (dC, dI) vwCl (MW mo km M ++ (OW oa ko (oU (kCo P T (lgA xs (i + 1))) o ((nI T.w).toInt64)) ++ (PW ad k P ++ (FW ad k F ++ TW ad k (tCo P T (lgA xs (i + 1))))))) H := hP
  have hD : va_D (fun q : Nat => s.heap.size ≤ q) (MW mo km M ++ (OW oa ko (oU (kCo P T (lgA xs (i + 1))) o ((nI T.w).toInt64)) ++ (PW ad k P ++ (FW ad k F ++ TW ad k (tCo P T (lgA xs (i + 1))))))) := hD
  refine W.eq (g2 := F0 m 143 ls [.int (nI (kCo P T (lgA xs (i + 1))))]) rfl ?_
  refine lv_istore (lv' := [(5, .int (nI (kCo P T (lgA xs (i + 1))))), (4, .int (nI i)), (0, .ref b), (1, .ref (ad 7)), (2, .ref (mo 0)), (3, .ref oa)]) hx hb dL_law_143 hl (by decide) rfl (fun ls hl => ?_)
  refine lv_aload_n hx hb dL_law_145 rfl (lv_at hl 4 rfl) ?_
  refine lv_aload_n hx hb dL_law_146 rfl (lv_at hl 2 rfl) ?_
  refine lv_iload hx hb dL_law_147 (lv_at hl 1 rfl) ?_
  refine lv_iconst (v := nI 1) hx hb dL_law_149 (by decide) ?_
  refine lv_iadd hx hb dL_law_150 ?_
  refine st_i (y := nI (i + 1)) (nI_add _ _) ?_
  refine la_sld hx hb hX0 hbl hbA hS (i := (i + 1)) (by omega) (by omega) dL_law_151 ?_
  refine lv_i2l (v := (xs (i + 1)).toInt64) hx hb dL_law_152 rfl ?_
  refine lv_bipush (v := nI 32) hx hb dL_law_153 (by decide) ?_
  refine lv_lshl (v := ((xs (i + 1)).toInt64) <<< ((nI 32).toInt64 &&& 63)) hx hb dL_law_155 rfl ?_
  refine lv_aload_n hx hb dL_law_156 rfl (lv_at hl 2 rfl) ?_
  refine lv_iload hx hb dL_law_157 (lv_at hl 1 rfl) ?_
  refine lv_iconst (v := nI 2) hx hb dL_law_159 (by decide) ?_
  refine lv_iadd hx hb dL_law_160 ?_
  refine st_i (y := nI (i + 2)) (nI_add _ _) ?_
  refine la_sld hx hb hX0 hbl hbA hS (i := (i + 2)) (by omega) (by omega) dL_law_161 ?_
  refine lv_i2l (v := (xs (i + 2)).toInt64) hx hb dL_law_162 rfl ?_
  refine lv_ldc2 (v := 4294967295) hx hb hown (hta _ m_676) dL_law_163 ?_
  refine lv_land hx hb dL_law_166 ?_
  refine lv_lor hx hb dL_law_167 ?_
  refine st_l (y := lgA xs (i + 1)) (rfl) ?_
  have hP2 : va_P (dC, dI) vwCl ((OW oa ko (oU (kCo P T (lgA xs (i + 1))) o ((nI T.w).toInt64)) ++ (PW ad k P ++ (FW ad k F ++ TW ad k (tCo P T (lgA xs (i + 1)))))) ++ MW mo km M) H := hP.sub [11, 12, 13, 14, 15, 16, 17, 18, 19, 20, 21, 22, 23, 0, 1, 2, 3, 4, 5, 6, 7, 8, 9, 10] rfl
  have hD2 : va_D (fun q : Nat => s.heap.size ≤ q) ((OW oa ko (oU (kCo P T (lgA xs (i + 1))) o ((nI T.w).toInt64)) ++ (PW ad k P ++ (FW ad k F ++ TW ad k (tCo P T (lgA xs (i + 1)))))) ++ MW mo km M) := hD.sub [11, 12, 13, 14, 15, 16, 17, 18, 19, 20, 21, 22, 23, 0, 1, 2, 3, 4, 5, 6, 7, 8, 9, 10] (by decide) rfl
  refine wr_call (X := OW oa ko (oU (kCo P T (lgA xs (i + 1))) o ((nI T.w).toInt64)) ++ (PW ad k P ++ (FW ad k F ++ TW ad k (tCo P T (lgA xs (i + 1)))))) (va_runV (As := [.long (lgA xs (i + 1))]) (rest := []) ⟨hx, hb, hml, hown, hta⟩ (c_M_column l dC dI mo km M H.size (lgA xs (i + 1)) (by omega)) (cwV 1 hta (gV m_554 m_555 m_556 m_4 m_557) rfl rfl rfl (by decide +kernel) ⟨Nat.le_of_ble_eq_true rfl, Nat.le_of_ble_eq_true rfl⟩) (wr_V xT_ok trivial (hK.sub [0, 1, 2, 3, 4, 5, 6, 7, 8, 9] rfl) (hP.sub [0, 1, 2, 3, 4, 5, 6, 7, 8, 9, 10] rfl) (hD.sub [0, 1, 2, 3, 4, 5, 6, 7, 8, 9, 10] (by decide) rfl) (ci := 2) (q0 := 0) rfl rfl) rfl rfl hl.1 rfl (lv_room (Nat.le_of_ble_eq_true rfl)) dL_law_168 ⟨by omega, by omega⟩) hP2 hD2 hS hA rfl (fun H locs hP hD hS => ?_)
  clear hP2 hD2
  obtain ⟨e1, e2, e3⟩ := o_column Re (lgA xs (i + 1))
  have hP : va_P (dC, dI) vwCl (MW mo km ((clM M (lgA xs (i + 1))).2) ++ (OW oa ko (oU (kCo P T (lgA xs (i + 1))) o ((nI T.w).toInt64)) ++ (PW ad k P ++ (FW ad k F ++ TW ad k (tCo P T (lgA xs (i + 1))))))) H := hP.sub [13, 14, 15, 16, 17, 18, 19, 20, 21, 22, 23, 0, 1, 2, 3, 4, 5, 6, 7, 8, 9, 10, 11, 12] rfl
  have hD : va_D (fun q : Nat => s.heap.size ≤ q) (MW mo km ((clM M (lgA xs (i + 1))).2) ++ (OW oa ko (oU (kCo P T (lgA xs (i + 1))) o ((nI T.w).toInt64)) ++ (PW ad k P ++ (FW ad k F ++ TW ad k (tCo P T (lgA xs (i + 1))))))) := hD.sub [13, 14, 15, 16, 17, 18, 19, 20, 21, 22, 23, 0, 1, 2, 3, 4, 5, 6, 7, 8, 9, 10, 11, 12] (by decide) rfl
  refine W.eq (g2 := F0 m 171 ls [.int ((clM M (lgA xs (i + 1))).1)]) rfl ?_
  refine lv_istore (lv' := [(6, .int ((clM M (lgA xs (i + 1))).1)), (5, .int (nI (kCo P T (lgA xs (i + 1))))), (4, .int (nI i)), (0, .ref b), (1, .ref (ad 7)), (2, .ref (mo 0)), (3, .ref oa)]) hx hb dL_law_171 hl (by decide) rfl (fun ls hl => ?_)
  refine lv_aload_n hx hb dL_law_173 rfl (lv_at hl 5 rfl) ?_
  refine rd_call (va_runV (As := []) (rest := []) ⟨hx, hb, hml, hown, hta⟩ (c_M_thrown l dC dI mo km ((clM M (lgA xs (i + 1))).2)) (cwV 0 hta (gV m_550 m_551 m_552 m_4 m_553) rfl rfl rfl (by decide +kernel) ⟨Nat.le_of_ble_eq_true rfl, Nat.le_of_ble_eq_true rfl⟩) (rd_V xT_ok trivial (hK.sub [0, 1, 2, 3, 4, 5, 6, 7, 8, 9] rfl) (hP.sub [0, 1, 2, 3, 4, 5, 6, 7, 8, 9, 10] rfl) (ci := 2) (q0 := 0) rfl rfl) rfl rfl hl.1 rfl (lv_room (Nat.le_of_ble_eq_true rfl)) dL_law_174 ⟨by omega, by omega⟩) ?_
  refine W.eq (g2 := F0 m 177 ls [.int (nI ((clM M (lgA xs (i + 1))).2).thr)]) rfl ?_
  refine st_i (y := nI (kCo P T (lgA xs (i + 1)))) (congrArg nI e1) ?_
  refine lv_iload hx hb dL_law_177 (lv_at hl 1 rfl) ?_
  refine lv_icmp_eq (tgt := 184) hx hb dL_law_179 (by decide) (fun c1 => ?_) (fun c1 => ?_)
  · refine lv_iload hx hb dL_law_184 (lv_at hl 1 rfl) ?_
    refine lv_if_ne (tgt := 201) hx hb dL_law_186 (by decide) (fun c2 => ?_) (fun c2 => ?_)
    · refine lv_goto (tgt := 934) hx hb dL_law_201 (by decide) ?_
      exact kk P F (tCo P T (lgA xs (i + 1))) ((clM M (lgA xs (i + 1))).2) (oU (kCo P T (lgA xs (i + 1))) o ((nI T.w).toInt64)) H locs ls e2 hP hD hS (lv_sub hl [2, 3, 4, 5, 6] rfl)
    · have hk0 := k0_of (by unfold kCo; (repeat' split) <;> omega) c2
      have e4 := e3 hk0
      refine lv_aload_n hx hb dL_law_189 rfl (lv_at hl 6 rfl) ?_
      refine lv_iconst (v := nI 0) hx hb dL_law_190 (by decide) ?_
      refine na_lald hx hb hK hP 11 10 rfl rfl (i := 0) (by decide) (by decide) dL_law_191 ?_
      refine st_l (y := (nI T.w).toInt64) (oU_at hk0) ?_
      refine lv_iload hx hb dL_law_192 (lv_at hl 0 rfl) ?_
      refine lv_i2l (v := ((clM M (lgA xs (i + 1))).1).toInt64) hx hb dL_law_194 rfl ?_
      refine st_l (y := (nI T.w).toInt64) (congrArg Int32.toInt64 e4) ?_
      refine ll_eq (tgt := 201) hx hb dL_law_195 dL_law_196 (by decide) (fun c3 => ?_) (fun c3 => ?_)
      · refine lv_goto (tgt := 934) hx hb dL_law_201 (by decide) ?_
        exact kk P F (tCo P T (lgA xs (i + 1))) ((clM M (lgA xs (i + 1))).2) (oU (kCo P T (lgA xs (i + 1))) o ((nI T.w).toInt64)) H locs ls e2 hP hD hS (lv_sub hl [2, 3, 4, 5, 6] rfl)
      · exact absurd rfl c3
  · exact absurd rfl c1

set_option maxHeartbeats 4000000 in
set_option maxRecDepth 100000 in
theorem op_row {p : Program} {e : Env} {s : State} {m : MethodId} {below : List Frame} {meth : Method} {c : Code} (l : Launch) (hlt : l.stackTraces = false) {b L : Nat} {xs : Nat → Int32} (hL : L ≤ 2561) (C0 : lw_At p s m meth c b L xs) (dC : Nat → ClassId) (dI : Nat → Nat → Nat) (hX : nW s) (hss : sW s) (hzA : zA s) (ad : Nat → Nat) (k : Nat → ClassId) (oa : Nat) (ko : ClassId) (mo : Nat → Nat) (km : Nat → ClassId) (hK : va_K (dC, dI) vwCl (MK km ++ (OQ ko ++ (PK k ++ (FK k ++ TK k)))) s) (P : PS) (F : Nat → Int32) (T : TS) (M : MS) (o : Nat → Int64) (H : Heap) (locs : List Loc) (ls : Array Slot) (cells slots i : Nat) (Re : Rel P F T M) (hi : i + 5 ≤ L) (hP : va_P (dC, dI) vwCl (MW mo km M ++ (OW oa ko o ++ (PW ad k P ++ (FW ad k F ++ TW ad k T)))) H) (hD : va_D (fun q : Nat => s.heap.size ≤ q) (MW mo km M ++ (OW oa ko o ++ (PW ad k P ++ (FW ad k F ++ TW ad k T))))) (hS : va_S (fun q : Nat => s.heap.size ≤ q) s.heap H locs) (hl : lv_has ls 8 [(4, .int (nI i)), (0, .ref b), (1, .ref (ad 7)), (2, .ref (mo 0)), (3, .ref oa)]) (hc1 : cells + 1 ≤ room_1.cells) (hc2 : slots + 6 ≤ room_1.slots) (kk : ∀ (P : PS) (F : Nat → Int32) (T : TS) (M : MS) (o : Nat → Int64) (H : Heap) (locs : List Loc) (ls : Array Slot), Rel P F T M → va_P (dC, dI) vwCl (MW mo km M ++ (OW oa ko o ++ (PW ad k P ++ (FW ad k F ++ TW ad k T)))) H → va_D (fun q : Nat => s.heap.size ≤ q) (MW mo km M ++ (OW oa ko o ++ (PW ad k P ++ (FW ad k F ++ TW ad k T)))) → va_S (fun q : Nat => s.heap.size ≤ q) s.heap H locs → lv_has ls 8 [(4, .int (nI i)), (0, .ref b), (1, .ref (ad 7)), (2, .ref (mo 0)), (3, .ref oa)] → W p l e room_1 s m #[Value.ref b] below meth c H locs (cells + 1) (slots + 6) (lw_Z below #[Value.ref b] s) (F0 m 934 ls [])) : W p l e room_1 s m #[Value.ref b] below meth c H locs cells slots (lw_Z below #[Value.ref b] s) (F0 m 204 ls []) := by
  obtain ⟨hx, hb, hr, hml, hown, hts, hX0, hbl, hlocks, hgv⟩ := id C0
  have hown : s.vm.findClass RL = some m.cls := hown
  have hta : ∀ w ∈ AW, w.before #[Value.ref b] s = true := fun w h => hts w (AW_in h)
  have hA : ∀ q : Nat, s.heap.size ≤ q → (fun q : Nat => s.heap.size ≤ q) q := fun _ h => h
  have hbA : ¬ (fun q : Nat => s.heap.size ≤ q) b := Nat.not_le.mpr hbl
  obtain ⟨g1, g2, g3, g4, g5, g6, g7, g8, g9, g10, g11, g12⟩ := Re.lim
  refine lv_aload_n hx hb dL_law_204 rfl (lv_at hl 2 rfl) ?_
  refine lv_aload_n hx hb dL_law_205 rfl (lv_at hl 1 rfl) ?_
  refine lv_iload hx hb dL_law_206 (lv_at hl 0 rfl) ?_
  refine lv_iconst (v := nI 1) hx hb dL_law_208 (by decide) ?_
  refine lv_iadd hx hb dL_law_209 ?_
  refine st_i (y := nI (i + 1)) (nI_add _ _) ?_
  refine la_sld hx hb hX0 hbl hbA hS (i := (i + 1)) (by omega) (by omega) dL_law_210 ?_
  refine lv_aload_n hx hb dL_law_211 rfl (lv_at hl 1 rfl) ?_
  refine lv_iload hx hb dL_law_212 (lv_at hl 0 rfl) ?_
  refine lv_iconst (v := nI 2) hx hb dL_law_214 (by decide) ?_
  refine lv_iadd hx hb dL_law_215 ?_
  refine st_i (y := nI (i + 2)) (nI_add _ _) ?_
  refine la_sld hx hb hX0 hbl hbA hS (i := (i + 2)) (by omega) (by omega) dL_law_216 ?_
  refine lv_aload_n hx hb dL_law_217 rfl (lv_at hl 1 rfl) ?_
  refine lv_iload hx hb dL_law_218 (lv_at hl 0 rfl) ?_
  refine lv_iconst (v := nI 3) hx hb dL_law_220 (by decide) ?_
  refine lv_iadd hx hb dL_law_221 ?_
  refine st_i (y := nI (i + 3)) (nI_add _ _) ?_
  refine la_sld hx hb hX0 hbl hbA hS (i := (i + 3)) (by omega) (by omega) dL_law_222 ?_
  refine lv_i2l (v := (xs (i + 3)).toInt64) hx hb dL_law_223 rfl ?_
  refine lv_bipush (v := nI 32) hx hb dL_law_224 (by decide) ?_
  refine lv_lshl (v := ((xs (i + 3)).toInt64) <<< ((nI 32).toInt64 &&& 63)) hx hb dL_law_226 rfl ?_
  refine lv_aload_n hx hb dL_law_227 rfl (lv_at hl 1 rfl) ?_
  refine lv_iload hx hb dL_law_228 (lv_at hl 0 rfl) ?_
  refine lv_iconst (v := nI 4) hx hb dL_law_230 (by decide) ?_
  refine lv_iadd hx hb dL_law_231 ?_
  refine st_i (y := nI (i + 4)) (nI_add _ _) ?_
  refine la_sld hx hb hX0 hbl hbA hS (i := (i + 4)) (by omega) (by omega) dL_law_232 ?_
  refine lv_i2l (v := (xs (i + 4)).toInt64) hx hb dL_law_233 rfl ?_
  refine lv_ldc2 (v := 4294967295) hx hb hown (hta _ m_676) dL_law_234 ?_
  refine lv_land hx hb dL_law_237 ?_
  refine lv_lor hx hb dL_law_238 ?_
  refine st_l (y := lgA xs (i + 3)) (rfl) ?_
  refine lv_aload_n hx hb dL_law_239 rfl (lv_at hl 4 rfl) ?_
  have hzH := zA_W hzA hS
  refine wr_call (X := MW mo km M) (vx_va (vx_runSX (As := [.ref (ad 7), .int (xs (i + 1)), .int (xs (i + 2)), .long (lgA xs (i + 3)), .ref oa]) (rest := []) ⟨hx, hb, hml, hown, hta⟩ (h_L_row l hlt dC dI ad k oa ko o P F T H.size (xs (i + 1)) (xs (i + 2)) (lgA xs (i + 3)) g3 g4 g5 g6) (vx_cwSW 5 hta (gH m_244 m_245 m_0 m_246) rfl rfl rfl (by decide +kernel) ⟨Nat.le_of_ble_eq_true rfl, Nat.le_of_ble_eq_true rfl⟩) (hd_S hX hss hzH (hK.sub [10, 11, 12, 13, 14, 15, 16, 17, 18, 19, 20] rfl) (hP.sub [11, 12, 13, 14, 15, 16, 17, 18, 19, 20, 21, 22, 23] rfl) (hD.sub [11, 12, 13, 14, 15, 16, 17, 18, 19, 20, 21, 22, 23] (by decide) rfl)) rfl rfl hl.1 rfl (lv_room (Nat.le_of_ble_eq_true rfl)) dL_law_240 ⟨by omega, by omega⟩)) hP hD hS hA rfl (fun H locs hP hD hS => ?_)
  have hP : va_P (dC, dI) vwCl (MW mo km M ++ (OW oa ko (oU (kRo P (xs (i + 1)) (xs (i + 2)) (lgA xs (i + 3))) o ((nI P.rows).toInt64)) ++ (PW ad k (pRo P (xs (i + 1)) (xs (i + 2)) (lgA xs (i + 3))) ++ (FW ad k F ++ TW ad k T)))) H := hP
  have hD : va_D (fun q : Nat => s.heap.size ≤ q) (MW mo km M ++ (OW oa ko (oU (kRo P (xs (i + 1)) (xs (i + 2)) (lgA xs (i + 3))) o ((nI P.rows).toInt64)) ++ (PW ad k (pRo P (xs (i + 1)) (xs (i + 2)) (lgA xs (i + 3))) ++ (FW ad k F ++ TW ad k T)))) := hD
  refine W.eq (g2 := F0 m 243 ls [.int (nI (kRo P (xs (i + 1)) (xs (i + 2)) (lgA xs (i + 3))))]) rfl ?_
  refine lv_istore (lv' := [(5, .int (nI (kRo P (xs (i + 1)) (xs (i + 2)) (lgA xs (i + 3))))), (4, .int (nI i)), (0, .ref b), (1, .ref (ad 7)), (2, .ref (mo 0)), (3, .ref oa)]) hx hb dL_law_243 hl (by decide) rfl (fun ls hl => ?_)
  refine lv_aload_n hx hb dL_law_245 rfl (lv_at hl 4 rfl) ?_
  refine lv_aload_n hx hb dL_law_246 rfl (lv_at hl 2 rfl) ?_
  refine lv_iload hx hb dL_law_247 (lv_at hl 1 rfl) ?_
  refine lv_iconst (v := nI 1) hx hb dL_law_249 (by decide) ?_
  refine lv_iadd hx hb dL_law_250 ?_
  refine st_i (y := nI (i + 1)) (nI_add _ _) ?_
  refine la_sld hx hb hX0 hbl hbA hS (i := (i + 1)) (by omega) (by omega) dL_law_251 ?_
  refine lv_aload_n hx hb dL_law_252 rfl (lv_at hl 2 rfl) ?_
  refine lv_iload hx hb dL_law_253 (lv_at hl 1 rfl) ?_
  refine lv_iconst (v := nI 2) hx hb dL_law_255 (by decide) ?_
  refine lv_iadd hx hb dL_law_256 ?_
  refine st_i (y := nI (i + 2)) (nI_add _ _) ?_
  refine la_sld hx hb hX0 hbl hbA hS (i := (i + 2)) (by omega) (by omega) dL_law_257 ?_
  refine lv_aload_n hx hb dL_law_258 rfl (lv_at hl 2 rfl) ?_
  refine lv_iload hx hb dL_law_259 (lv_at hl 1 rfl) ?_
  refine lv_iconst (v := nI 3) hx hb dL_law_261 (by decide) ?_
  refine lv_iadd hx hb dL_law_262 ?_
  refine st_i (y := nI (i + 3)) (nI_add _ _) ?_
  refine la_sld hx hb hX0 hbl hbA hS (i := (i + 3)) (by omega) (by omega) dL_law_263 ?_
  refine lv_i2l (v := (xs (i + 3)).toInt64) hx hb dL_law_264 rfl ?_
  refine lv_bipush (v := nI 32) hx hb dL_law_265 (by decide) ?_
  refine lv_lshl (v := ((xs (i + 3)).toInt64) <<< ((nI 32).toInt64 &&& 63)) hx hb dL_law_267 rfl ?_
  refine lv_aload_n hx hb dL_law_268 rfl (lv_at hl 2 rfl) ?_
  refine lv_iload hx hb dL_law_269 (lv_at hl 1 rfl) ?_
  refine lv_iconst (v := nI 4) hx hb dL_law_271 (by decide) ?_
  refine lv_iadd hx hb dL_law_272 ?_
  refine st_i (y := nI (i + 4)) (nI_add _ _) ?_
  refine la_sld hx hb hX0 hbl hbA hS (i := (i + 4)) (by omega) (by omega) dL_law_273 ?_
  refine lv_i2l (v := (xs (i + 4)).toInt64) hx hb dL_law_274 rfl ?_
  refine lv_ldc2 (v := 4294967295) hx hb hown (hta _ m_676) dL_law_275 ?_
  refine lv_land hx hb dL_law_278 ?_
  refine lv_lor hx hb dL_law_279 ?_
  refine st_l (y := lgA xs (i + 3)) (rfl) ?_
  have hP2 : va_P (dC, dI) vwCl ((OW oa ko (oU (kRo P (xs (i + 1)) (xs (i + 2)) (lgA xs (i + 3))) o ((nI P.rows).toInt64)) ++ (PW ad k (pRo P (xs (i + 1)) (xs (i + 2)) (lgA xs (i + 3))) ++ (FW ad k F ++ TW ad k T))) ++ MW mo km M) H := hP.sub [11, 12, 13, 14, 15, 16, 17, 18, 19, 20, 21, 22, 23, 0, 1, 2, 3, 4, 5, 6, 7, 8, 9, 10] rfl
  have hD2 : va_D (fun q : Nat => s.heap.size ≤ q) ((OW oa ko (oU (kRo P (xs (i + 1)) (xs (i + 2)) (lgA xs (i + 3))) o ((nI P.rows).toInt64)) ++ (PW ad k (pRo P (xs (i + 1)) (xs (i + 2)) (lgA xs (i + 3))) ++ (FW ad k F ++ TW ad k T))) ++ MW mo km M) := hD.sub [11, 12, 13, 14, 15, 16, 17, 18, 19, 20, 21, 22, 23, 0, 1, 2, 3, 4, 5, 6, 7, 8, 9, 10] (by decide) rfl
  refine wr_call (X := OW oa ko (oU (kRo P (xs (i + 1)) (xs (i + 2)) (lgA xs (i + 3))) o ((nI P.rows).toInt64)) ++ (PW ad k (pRo P (xs (i + 1)) (xs (i + 2)) (lgA xs (i + 3))) ++ (FW ad k F ++ TW ad k T))) (va_runV (As := [.int (xs (i + 1)), .int (xs (i + 2)), .long (lgA xs (i + 3))]) (rest := []) ⟨hx, hb, hml, hown, hta⟩ (c_M_row l dC dI mo km M H.size (xs (i + 1)) (xs (i + 2)) (lgA xs (i + 3)) (by omega)) (cwV 3 hta (gV m_562 m_563 m_564 m_4 m_565) rfl rfl rfl (by decide +kernel) ⟨Nat.le_of_ble_eq_true rfl, Nat.le_of_ble_eq_true rfl⟩) (wr_V xT_ok trivial (hK.sub [0, 1, 2, 3, 4, 5, 6, 7, 8, 9] rfl) (hP.sub [0, 1, 2, 3, 4, 5, 6, 7, 8, 9, 10] rfl) (hD.sub [0, 1, 2, 3, 4, 5, 6, 7, 8, 9, 10] (by decide) rfl) (ci := 2) (q0 := 0) rfl rfl) rfl rfl hl.1 rfl (lv_room (Nat.le_of_ble_eq_true rfl)) dL_law_280 ⟨by omega, by omega⟩) hP2 hD2 hS hA rfl (fun H locs hP hD hS => ?_)
  clear hP2 hD2
  obtain ⟨e1, e2, e3⟩ := o_row Re (xs (i + 1)) (xs (i + 2)) (lgA xs (i + 3))
  have hP : va_P (dC, dI) vwCl (MW mo km ((rwM M (xs (i + 1)) (xs (i + 2)) (lgA xs (i + 3))).2) ++ (OW oa ko (oU (kRo P (xs (i + 1)) (xs (i + 2)) (lgA xs (i + 3))) o ((nI P.rows).toInt64)) ++ (PW ad k (pRo P (xs (i + 1)) (xs (i + 2)) (lgA xs (i + 3))) ++ (FW ad k F ++ TW ad k T)))) H := hP.sub [13, 14, 15, 16, 17, 18, 19, 20, 21, 22, 23, 0, 1, 2, 3, 4, 5, 6, 7, 8, 9, 10, 11, 12] rfl
  have hD : va_D (fun q : Nat => s.heap.size ≤ q) (MW mo km ((rwM M (xs (i + 1)) (xs (i + 2)) (lgA xs (i + 3))).2) ++ (OW oa ko (oU (kRo P (xs (i + 1)) (xs (i + 2)) (lgA xs (i + 3))) o ((nI P.rows).toInt64)) ++ (PW ad k (pRo P (xs (i + 1)) (xs (i + 2)) (lgA xs (i + 3))) ++ (FW ad k F ++ TW ad k T)))) := hD.sub [13, 14, 15, 16, 17, 18, 19, 20, 21, 22, 23, 0, 1, 2, 3, 4, 5, 6, 7, 8, 9, 10, 11, 12] (by decide) rfl
  refine W.eq (g2 := F0 m 283 ls [.int ((rwM M (xs (i + 1)) (xs (i + 2)) (lgA xs (i + 3))).1)]) rfl ?_
  refine lv_istore (lv' := [(6, .int ((rwM M (xs (i + 1)) (xs (i + 2)) (lgA xs (i + 3))).1)), (5, .int (nI (kRo P (xs (i + 1)) (xs (i + 2)) (lgA xs (i + 3))))), (4, .int (nI i)), (0, .ref b), (1, .ref (ad 7)), (2, .ref (mo 0)), (3, .ref oa)]) hx hb dL_law_283 hl (by decide) rfl (fun ls hl => ?_)
  refine lv_aload_n hx hb dL_law_285 rfl (lv_at hl 5 rfl) ?_
  refine rd_call (va_runV (As := []) (rest := []) ⟨hx, hb, hml, hown, hta⟩ (c_M_thrown l dC dI mo km ((rwM M (xs (i + 1)) (xs (i + 2)) (lgA xs (i + 3))).2)) (cwV 0 hta (gV m_550 m_551 m_552 m_4 m_553) rfl rfl rfl (by decide +kernel) ⟨Nat.le_of_ble_eq_true rfl, Nat.le_of_ble_eq_true rfl⟩) (rd_V xT_ok trivial (hK.sub [0, 1, 2, 3, 4, 5, 6, 7, 8, 9] rfl) (hP.sub [0, 1, 2, 3, 4, 5, 6, 7, 8, 9, 10] rfl) (ci := 2) (q0 := 0) rfl rfl) rfl rfl hl.1 rfl (lv_room (Nat.le_of_ble_eq_true rfl)) dL_law_286 ⟨by omega, by omega⟩) ?_
  refine W.eq (g2 := F0 m 289 ls [.int (nI ((rwM M (xs (i + 1)) (xs (i + 2)) (lgA xs (i + 3))).2).thr)]) rfl ?_
  refine st_i (y := nI (kRo P (xs (i + 1)) (xs (i + 2)) (lgA xs (i + 3)))) (congrArg nI e1) ?_
  refine lv_iload hx hb dL_law_289 (lv_at hl 1 rfl) ?_
  refine lv_icmp_eq (tgt := 296) hx hb dL_law_291 (by decide) (fun c1 => ?_) (fun c1 => ?_)
  · refine lv_iload hx hb dL_law_296 (lv_at hl 1 rfl) ?_
    refine lv_if_ne (tgt := 313) hx hb dL_law_298 (by decide) (fun c2 => ?_) (fun c2 => ?_)
    · refine lv_goto (tgt := 934) hx hb dL_law_313 (by decide) ?_
      exact kk (pRo P (xs (i + 1)) (xs (i + 2)) (lgA xs (i + 3))) F T ((rwM M (xs (i + 1)) (xs (i + 2)) (lgA xs (i + 3))).2) (oU (kRo P (xs (i + 1)) (xs (i + 2)) (lgA xs (i + 3))) o ((nI P.rows).toInt64)) H locs ls e2 hP hD hS (lv_sub hl [2, 3, 4, 5, 6] rfl)
    · have hk0 := k0_of (by unfold kRo; (repeat' split) <;> omega) c2
      have e4 := e3 hk0
      refine lv_aload_n hx hb dL_law_301 rfl (lv_at hl 6 rfl) ?_
      refine lv_iconst (v := nI 0) hx hb dL_law_302 (by decide) ?_
      refine na_lald hx hb hK hP 11 10 rfl rfl (i := 0) (by decide) (by decide) dL_law_303 ?_
      refine st_l (y := (nI P.rows).toInt64) (oU_at hk0) ?_
      refine lv_iload hx hb dL_law_304 (lv_at hl 0 rfl) ?_
      refine lv_i2l (v := ((rwM M (xs (i + 1)) (xs (i + 2)) (lgA xs (i + 3))).1).toInt64) hx hb dL_law_306 rfl ?_
      refine st_l (y := (nI P.rows).toInt64) (congrArg Int32.toInt64 e4) ?_
      refine ll_eq (tgt := 313) hx hb dL_law_307 dL_law_308 (by decide) (fun c3 => ?_) (fun c3 => ?_)
      · refine lv_goto (tgt := 934) hx hb dL_law_313 (by decide) ?_
        exact kk (pRo P (xs (i + 1)) (xs (i + 2)) (lgA xs (i + 3))) F T ((rwM M (xs (i + 1)) (xs (i + 2)) (lgA xs (i + 3))).2) (oU (kRo P (xs (i + 1)) (xs (i + 2)) (lgA xs (i + 3))) o ((nI P.rows).toInt64)) H locs ls e2 hP hD hS (lv_sub hl [2, 3, 4, 5, 6] rfl)
      · exact absurd rfl c3
  · exact absurd rfl c1

set_option maxHeartbeats 4000000 in
set_option maxRecDepth 100000 in
theorem op_factor {p : Program} {e : Env} {s : State} {m : MethodId} {below : List Frame} {meth : Method} {c : Code} (l : Launch) (hlt : l.stackTraces = false) {b L : Nat} {xs : Nat → Int32} (hL : L ≤ 2561) (C0 : lw_At p s m meth c b L xs) (dC : Nat → ClassId) (dI : Nat → Nat → Nat) (hX : nW s) (hss : sW s) (hzA : zA s) (ad : Nat → Nat) (k : Nat → ClassId) (oa : Nat) (ko : ClassId) (mo : Nat → Nat) (km : Nat → ClassId) (hK : va_K (dC, dI) vwCl (MK km ++ (OQ ko ++ (PK k ++ (FK k ++ TK k)))) s) (P : PS) (F : Nat → Int32) (T : TS) (M : MS) (o : Nat → Int64) (H : Heap) (locs : List Loc) (ls : Array Slot) (cells slots i : Nat) (Re : Rel P F T M) (hi : i + 5 ≤ L) (hP : va_P (dC, dI) vwCl (MW mo km M ++ (OW oa ko o ++ (PW ad k P ++ (FW ad k F ++ TW ad k T)))) H) (hD : va_D (fun q : Nat => s.heap.size ≤ q) (MW mo km M ++ (OW oa ko o ++ (PW ad k P ++ (FW ad k F ++ TW ad k T))))) (hS : va_S (fun q : Nat => s.heap.size ≤ q) s.heap H locs) (hl : lv_has ls 8 [(4, .int (nI i)), (0, .ref b), (1, .ref (ad 7)), (2, .ref (mo 0)), (3, .ref oa)]) (hc1 : cells + 1 ≤ room_1.cells) (hc2 : slots + 6 ≤ room_1.slots) (kk : ∀ (P : PS) (F : Nat → Int32) (T : TS) (M : MS) (o : Nat → Int64) (H : Heap) (locs : List Loc) (ls : Array Slot), Rel P F T M → va_P (dC, dI) vwCl (MW mo km M ++ (OW oa ko o ++ (PW ad k P ++ (FW ad k F ++ TW ad k T)))) H → va_D (fun q : Nat => s.heap.size ≤ q) (MW mo km M ++ (OW oa ko o ++ (PW ad k P ++ (FW ad k F ++ TW ad k T)))) → va_S (fun q : Nat => s.heap.size ≤ q) s.heap H locs → lv_has ls 8 [(4, .int (nI i)), (0, .ref b), (1, .ref (ad 7)), (2, .ref (mo 0)), (3, .ref oa)] → W p l e room_1 s m #[Value.ref b] below meth c H locs (cells + 1) (slots + 6) (lw_Z below #[Value.ref b] s) (F0 m 934 ls [])) : W p l e room_1 s m #[Value.ref b] below meth c H locs cells slots (lw_Z below #[Value.ref b] s) (F0 m 316 ls []) := by
  obtain ⟨hx, hb, hr, hml, hown, hts, hX0, hbl, hlocks, hgv⟩ := id C0
  have hown : s.vm.findClass RL = some m.cls := hown
  have hta : ∀ w ∈ AW, w.before #[Value.ref b] s = true := fun w h => hts w (AW_in h)
  have hA : ∀ q : Nat, s.heap.size ≤ q → (fun q : Nat => s.heap.size ≤ q) q := fun _ h => h
  have hbA : ¬ (fun q : Nat => s.heap.size ≤ q) b := Nat.not_le.mpr hbl
  obtain ⟨g1, g2, g3, g4, g5, g6, g7, g8, g9, g10, g11, g12⟩ := Re.lim
  refine lv_aload_n hx hb dL_law_316 rfl (lv_at hl 2 rfl) ?_
  refine lv_aload_n hx hb dL_law_317 rfl (lv_at hl 1 rfl) ?_
  refine lv_iload hx hb dL_law_318 (lv_at hl 0 rfl) ?_
  refine lv_iconst (v := nI 1) hx hb dL_law_320 (by decide) ?_
  refine lv_iadd hx hb dL_law_321 ?_
  refine st_i (y := nI (i + 1)) (nI_add _ _) ?_
  refine la_sld hx hb hX0 hbl hbA hS (i := (i + 1)) (by omega) (by omega) dL_law_322 ?_
  refine lv_aload_n hx hb dL_law_323 rfl (lv_at hl 1 rfl) ?_
  refine lv_iload hx hb dL_law_324 (lv_at hl 0 rfl) ?_
  refine lv_iconst (v := nI 2) hx hb dL_law_326 (by decide) ?_
  refine lv_iadd hx hb dL_law_327 ?_
  refine st_i (y := nI (i + 2)) (nI_add _ _) ?_
  refine la_sld hx hb hX0 hbl hbA hS (i := (i + 2)) (by omega) (by omega) dL_law_328 ?_
  refine lv_aload_n hx hb dL_law_329 rfl (lv_at hl 1 rfl) ?_
  refine lv_iload hx hb dL_law_330 (lv_at hl 0 rfl) ?_
  refine lv_iconst (v := nI 3) hx hb dL_law_332 (by decide) ?_
  refine lv_iadd hx hb dL_law_333 ?_
  refine st_i (y := nI (i + 3)) (nI_add _ _) ?_
  refine la_sld hx hb hX0 hbl hbA hS (i := (i + 3)) (by omega) (by omega) dL_law_334 ?_
  refine lv_aload_n hx hb dL_law_335 rfl (lv_at hl 4 rfl) ?_
  have hzH := zA_W hzA hS
  refine wr_call (X := MW mo km M) (vx_va (vx_runSX (As := [.ref (ad 7), .int (xs (i + 1)), .int (xs (i + 2)), .int (xs (i + 3)), .ref oa]) (rest := []) ⟨hx, hb, hml, hown, hta⟩ (h_L_factor l hlt dC dI ad k oa ko o P F T H.size (xs (i + 1)) (xs (i + 2)) (xs (i + 3)) g3 g4 g5 g6) (vx_cwSW 5 hta (gH m_268 m_269 m_0 m_270) rfl rfl rfl (by decide +kernel) ⟨Nat.le_of_ble_eq_true rfl, Nat.le_of_ble_eq_true rfl⟩) (hd_S hX hss hzH (hK.sub [10, 11, 12, 13, 14, 15, 16, 17, 18, 19, 20] rfl) (hP.sub [11, 12, 13, 14, 15, 16, 17, 18, 19, 20, 21, 22, 23] rfl) (hD.sub [11, 12, 13, 14, 15, 16, 17, 18, 19, 20, 21, 22, 23] (by decide) rfl)) rfl rfl hl.1 rfl (lv_room (Nat.le_of_ble_eq_true rfl)) dL_law_336 ⟨by omega, by omega⟩)) hP hD hS hA rfl (fun H locs hP hD hS => ?_)
  have hP : va_P (dC, dI) vwCl (MW mo km M ++ (OW oa ko (oU (kFa P T (xs (i + 1)) (xs (i + 2)) (xs (i + 3))) o ((F (iFa P T (xs (i + 1)) (xs (i + 2)))).toInt64)) ++ (PW ad k P ++ (FW ad k (fFa P F T (xs (i + 1)) (xs (i + 2)) (xs (i + 3))) ++ TW ad k T)))) H := hP
  have hD : va_D (fun q : Nat => s.heap.size ≤ q) (MW mo km M ++ (OW oa ko (oU (kFa P T (xs (i + 1)) (xs (i + 2)) (xs (i + 3))) o ((F (iFa P T (xs (i + 1)) (xs (i + 2)))).toInt64)) ++ (PW ad k P ++ (FW ad k (fFa P F T (xs (i + 1)) (xs (i + 2)) (xs (i + 3))) ++ TW ad k T)))) := hD
  refine W.eq (g2 := F0 m 339 ls [.int (nI (kFa P T (xs (i + 1)) (xs (i + 2)) (xs (i + 3))))]) rfl ?_
  refine lv_istore (lv' := [(5, .int (nI (kFa P T (xs (i + 1)) (xs (i + 2)) (xs (i + 3))))), (4, .int (nI i)), (0, .ref b), (1, .ref (ad 7)), (2, .ref (mo 0)), (3, .ref oa)]) hx hb dL_law_339 hl (by decide) rfl (fun ls hl => ?_)
  refine lv_aload_n hx hb dL_law_341 rfl (lv_at hl 4 rfl) ?_
  refine lv_aload_n hx hb dL_law_342 rfl (lv_at hl 2 rfl) ?_
  refine lv_iload hx hb dL_law_343 (lv_at hl 1 rfl) ?_
  refine lv_iconst (v := nI 1) hx hb dL_law_345 (by decide) ?_
  refine lv_iadd hx hb dL_law_346 ?_
  refine st_i (y := nI (i + 1)) (nI_add _ _) ?_
  refine la_sld hx hb hX0 hbl hbA hS (i := (i + 1)) (by omega) (by omega) dL_law_347 ?_
  refine lv_aload_n hx hb dL_law_348 rfl (lv_at hl 2 rfl) ?_
  refine lv_iload hx hb dL_law_349 (lv_at hl 1 rfl) ?_
  refine lv_iconst (v := nI 2) hx hb dL_law_351 (by decide) ?_
  refine lv_iadd hx hb dL_law_352 ?_
  refine st_i (y := nI (i + 2)) (nI_add _ _) ?_
  refine la_sld hx hb hX0 hbl hbA hS (i := (i + 2)) (by omega) (by omega) dL_law_353 ?_
  refine lv_aload_n hx hb dL_law_354 rfl (lv_at hl 2 rfl) ?_
  refine lv_iload hx hb dL_law_355 (lv_at hl 1 rfl) ?_
  refine lv_iconst (v := nI 3) hx hb dL_law_357 (by decide) ?_
  refine lv_iadd hx hb dL_law_358 ?_
  refine st_i (y := nI (i + 3)) (nI_add _ _) ?_
  refine la_sld hx hb hX0 hbl hbA hS (i := (i + 3)) (by omega) (by omega) dL_law_359 ?_
  have hP2 : va_P (dC, dI) vwCl ((OW oa ko (oU (kFa P T (xs (i + 1)) (xs (i + 2)) (xs (i + 3))) o ((F (iFa P T (xs (i + 1)) (xs (i + 2)))).toInt64)) ++ (PW ad k P ++ (FW ad k (fFa P F T (xs (i + 1)) (xs (i + 2)) (xs (i + 3))) ++ TW ad k T))) ++ MW mo km M) H := hP.sub [11, 12, 13, 14, 15, 16, 17, 18, 19, 20, 21, 22, 23, 0, 1, 2, 3, 4, 5, 6, 7, 8, 9, 10] rfl
  have hD2 : va_D (fun q : Nat => s.heap.size ≤ q) ((OW oa ko (oU (kFa P T (xs (i + 1)) (xs (i + 2)) (xs (i + 3))) o ((F (iFa P T (xs (i + 1)) (xs (i + 2)))).toInt64)) ++ (PW ad k P ++ (FW ad k (fFa P F T (xs (i + 1)) (xs (i + 2)) (xs (i + 3))) ++ TW ad k T))) ++ MW mo km M) := hD.sub [11, 12, 13, 14, 15, 16, 17, 18, 19, 20, 21, 22, 23, 0, 1, 2, 3, 4, 5, 6, 7, 8, 9, 10] (by decide) rfl
  refine wr_call (X := OW oa ko (oU (kFa P T (xs (i + 1)) (xs (i + 2)) (xs (i + 3))) o ((F (iFa P T (xs (i + 1)) (xs (i + 2)))).toInt64)) ++ (PW ad k P ++ (FW ad k (fFa P F T (xs (i + 1)) (xs (i + 2)) (xs (i + 3))) ++ TW ad k T))) (va_runV (As := [.int (xs (i + 1)), .int (xs (i + 2)), .int (xs (i + 3))]) (rest := []) ⟨hx, hb, hml, hown, hta⟩ (c_M_factor l dC dI mo km M H.size (xs (i + 1)) (xs (i + 2)) (xs (i + 3)) g9 (by omega) (by omega)) (cwV 3 hta (gV m_573 m_574 m_575 m_4 m_576) rfl rfl rfl (by decide +kernel) ⟨Nat.le_of_ble_eq_true rfl, Nat.le_of_ble_eq_true rfl⟩) (wr_V xT_ok trivial (hK.sub [0, 1, 2, 3, 4, 5, 6, 7, 8, 9] rfl) (hP.sub [0, 1, 2, 3, 4, 5, 6, 7, 8, 9, 10] rfl) (hD.sub [0, 1, 2, 3, 4, 5, 6, 7, 8, 9, 10] (by decide) rfl) (ci := 2) (q0 := 0) rfl rfl) rfl rfl hl.1 rfl (lv_room (Nat.le_of_ble_eq_true rfl)) dL_law_360 ⟨by omega, by omega⟩) hP2 hD2 hS hA rfl (fun H locs hP hD hS => ?_)
  clear hP2 hD2
  obtain ⟨e1, e2, e3⟩ := o_factor Re (xs (i + 1)) (xs (i + 2)) (xs (i + 3))
  have hP : va_P (dC, dI) vwCl (MW mo km ((faM M (xs (i + 1)) (xs (i + 2)) (xs (i + 3))).2) ++ (OW oa ko (oU (kFa P T (xs (i + 1)) (xs (i + 2)) (xs (i + 3))) o ((F (iFa P T (xs (i + 1)) (xs (i + 2)))).toInt64)) ++ (PW ad k P ++ (FW ad k (fFa P F T (xs (i + 1)) (xs (i + 2)) (xs (i + 3))) ++ TW ad k T)))) H := hP.sub [13, 14, 15, 16, 17, 18, 19, 20, 21, 22, 23, 0, 1, 2, 3, 4, 5, 6, 7, 8, 9, 10, 11, 12] rfl
  have hD : va_D (fun q : Nat => s.heap.size ≤ q) (MW mo km ((faM M (xs (i + 1)) (xs (i + 2)) (xs (i + 3))).2) ++ (OW oa ko (oU (kFa P T (xs (i + 1)) (xs (i + 2)) (xs (i + 3))) o ((F (iFa P T (xs (i + 1)) (xs (i + 2)))).toInt64)) ++ (PW ad k P ++ (FW ad k (fFa P F T (xs (i + 1)) (xs (i + 2)) (xs (i + 3))) ++ TW ad k T)))) := hD.sub [13, 14, 15, 16, 17, 18, 19, 20, 21, 22, 23, 0, 1, 2, 3, 4, 5, 6, 7, 8, 9, 10, 11, 12] (by decide) rfl
  refine W.eq (g2 := F0 m 363 ls [.int ((faM M (xs (i + 1)) (xs (i + 2)) (xs (i + 3))).1)]) rfl ?_
  refine lv_istore (lv' := [(6, .int ((faM M (xs (i + 1)) (xs (i + 2)) (xs (i + 3))).1)), (5, .int (nI (kFa P T (xs (i + 1)) (xs (i + 2)) (xs (i + 3))))), (4, .int (nI i)), (0, .ref b), (1, .ref (ad 7)), (2, .ref (mo 0)), (3, .ref oa)]) hx hb dL_law_363 hl (by decide) rfl (fun ls hl => ?_)
  refine lv_aload_n hx hb dL_law_365 rfl (lv_at hl 5 rfl) ?_
  refine rd_call (va_runV (As := []) (rest := []) ⟨hx, hb, hml, hown, hta⟩ (c_M_thrown l dC dI mo km ((faM M (xs (i + 1)) (xs (i + 2)) (xs (i + 3))).2)) (cwV 0 hta (gV m_550 m_551 m_552 m_4 m_553) rfl rfl rfl (by decide +kernel) ⟨Nat.le_of_ble_eq_true rfl, Nat.le_of_ble_eq_true rfl⟩) (rd_V xT_ok trivial (hK.sub [0, 1, 2, 3, 4, 5, 6, 7, 8, 9] rfl) (hP.sub [0, 1, 2, 3, 4, 5, 6, 7, 8, 9, 10] rfl) (ci := 2) (q0 := 0) rfl rfl) rfl rfl hl.1 rfl (lv_room (Nat.le_of_ble_eq_true rfl)) dL_law_366 ⟨by omega, by omega⟩) ?_
  refine W.eq (g2 := F0 m 369 ls [.int (nI ((faM M (xs (i + 1)) (xs (i + 2)) (xs (i + 3))).2).thr)]) rfl ?_
  refine st_i (y := nI (kFa P T (xs (i + 1)) (xs (i + 2)) (xs (i + 3)))) (congrArg nI e1) ?_
  refine lv_iload hx hb dL_law_369 (lv_at hl 1 rfl) ?_
  refine lv_icmp_eq (tgt := 376) hx hb dL_law_371 (by decide) (fun c1 => ?_) (fun c1 => ?_)
  · refine lv_iload hx hb dL_law_376 (lv_at hl 1 rfl) ?_
    refine lv_if_ne (tgt := 393) hx hb dL_law_378 (by decide) (fun c2 => ?_) (fun c2 => ?_)
    · refine lv_goto (tgt := 934) hx hb dL_law_393 (by decide) ?_
      exact kk P (fFa P F T (xs (i + 1)) (xs (i + 2)) (xs (i + 3))) T ((faM M (xs (i + 1)) (xs (i + 2)) (xs (i + 3))).2) (oU (kFa P T (xs (i + 1)) (xs (i + 2)) (xs (i + 3))) o ((F (iFa P T (xs (i + 1)) (xs (i + 2)))).toInt64)) H locs ls e2 hP hD hS (lv_sub hl [2, 3, 4, 5, 6] rfl)
    · have hk0 := k0_of (by unfold kFa; (repeat' split) <;> omega) c2
      have e4 := e3 hk0
      refine lv_aload_n hx hb dL_law_381 rfl (lv_at hl 6 rfl) ?_
      refine lv_iconst (v := nI 0) hx hb dL_law_382 (by decide) ?_
      refine na_lald hx hb hK hP 11 10 rfl rfl (i := 0) (by decide) (by decide) dL_law_383 ?_
      refine st_l (y := (F (iFa P T (xs (i + 1)) (xs (i + 2)))).toInt64) (oU_at hk0) ?_
      refine lv_iload hx hb dL_law_384 (lv_at hl 0 rfl) ?_
      refine lv_i2l (v := ((faM M (xs (i + 1)) (xs (i + 2)) (xs (i + 3))).1).toInt64) hx hb dL_law_386 rfl ?_
      refine st_l (y := (F (iFa P T (xs (i + 1)) (xs (i + 2)))).toInt64) (congrArg Int32.toInt64 e4) ?_
      refine ll_eq (tgt := 393) hx hb dL_law_387 dL_law_388 (by decide) (fun c3 => ?_) (fun c3 => ?_)
      · refine lv_goto (tgt := 934) hx hb dL_law_393 (by decide) ?_
        exact kk P (fFa P F T (xs (i + 1)) (xs (i + 2)) (xs (i + 3))) T ((faM M (xs (i + 1)) (xs (i + 2)) (xs (i + 3))).2) (oU (kFa P T (xs (i + 1)) (xs (i + 2)) (xs (i + 3))) o ((F (iFa P T (xs (i + 1)) (xs (i + 2)))).toInt64)) H locs ls e2 hP hD hS (lv_sub hl [2, 3, 4, 5, 6] rfl)
      · exact absurd rfl c3
  · exact absurd rfl c1

set_option maxHeartbeats 4000000 in
set_option maxRecDepth 100000 in
theorem op_cut {p : Program} {e : Env} {s : State} {m : MethodId} {below : List Frame} {meth : Method} {c : Code} (l : Launch) (hlt : l.stackTraces = false) {b L : Nat} {xs : Nat → Int32} (hL : L ≤ 2561) (C0 : lw_At p s m meth c b L xs) (dC : Nat → ClassId) (dI : Nat → Nat → Nat) (hX : nW s) (hss : sW s) (hzA : zA s) (ad : Nat → Nat) (k : Nat → ClassId) (oa : Nat) (ko : ClassId) (mo : Nat → Nat) (km : Nat → ClassId) (hK : va_K (dC, dI) vwCl (MK km ++ (OQ ko ++ (PK k ++ (FK k ++ TK k)))) s) (P : PS) (F : Nat → Int32) (T : TS) (M : MS) (o : Nat → Int64) (H : Heap) (locs : List Loc) (ls : Array Slot) (cells slots i : Nat) (Re : Rel P F T M) (hi : i + 5 ≤ L) (hP : va_P (dC, dI) vwCl (MW mo km M ++ (OW oa ko o ++ (PW ad k P ++ (FW ad k F ++ TW ad k T)))) H) (hD : va_D (fun q : Nat => s.heap.size ≤ q) (MW mo km M ++ (OW oa ko o ++ (PW ad k P ++ (FW ad k F ++ TW ad k T))))) (hS : va_S (fun q : Nat => s.heap.size ≤ q) s.heap H locs) (hl : lv_has ls 8 [(4, .int (nI i)), (0, .ref b), (1, .ref (ad 7)), (2, .ref (mo 0)), (3, .ref oa)]) (hc1 : cells + 1 ≤ room_1.cells) (hc2 : slots + 6 ≤ room_1.slots) (kk : ∀ (P : PS) (F : Nat → Int32) (T : TS) (M : MS) (o : Nat → Int64) (H : Heap) (locs : List Loc) (ls : Array Slot), Rel P F T M → va_P (dC, dI) vwCl (MW mo km M ++ (OW oa ko o ++ (PW ad k P ++ (FW ad k F ++ TW ad k T)))) H → va_D (fun q : Nat => s.heap.size ≤ q) (MW mo km M ++ (OW oa ko o ++ (PW ad k P ++ (FW ad k F ++ TW ad k T)))) → va_S (fun q : Nat => s.heap.size ≤ q) s.heap H locs → lv_has ls 8 [(4, .int (nI i)), (0, .ref b), (1, .ref (ad 7)), (2, .ref (mo 0)), (3, .ref oa)] → W p l e room_1 s m #[Value.ref b] below meth c H locs (cells + 1) (slots + 6) (lw_Z below #[Value.ref b] s) (F0 m 934 ls [])) : W p l e room_1 s m #[Value.ref b] below meth c H locs cells slots (lw_Z below #[Value.ref b] s) (F0 m 396 ls []) := by
  obtain ⟨hx, hb, hr, hml, hown, hts, hX0, hbl, hlocks, hgv⟩ := id C0
  have hown : s.vm.findClass RL = some m.cls := hown
  have hta : ∀ w ∈ AW, w.before #[Value.ref b] s = true := fun w h => hts w (AW_in h)
  have hA : ∀ q : Nat, s.heap.size ≤ q → (fun q : Nat => s.heap.size ≤ q) q := fun _ h => h
  have hbA : ¬ (fun q : Nat => s.heap.size ≤ q) b := Nat.not_le.mpr hbl
  obtain ⟨g1, g2, g3, g4, g5, g6, g7, g8, g9, g10, g11, g12⟩ := Re.lim
  refine lv_aload_n hx hb dL_law_396 rfl (lv_at hl 2 rfl) ?_
  refine lv_aload_n hx hb dL_law_397 rfl (lv_at hl 1 rfl) ?_
  refine lv_iload hx hb dL_law_398 (lv_at hl 0 rfl) ?_
  refine lv_iconst (v := nI 1) hx hb dL_law_400 (by decide) ?_
  refine lv_iadd hx hb dL_law_401 ?_
  refine st_i (y := nI (i + 1)) (nI_add _ _) ?_
  refine la_sld hx hb hX0 hbl hbA hS (i := (i + 1)) (by omega) (by omega) dL_law_402 ?_
  refine lv_aload_n hx hb dL_law_403 rfl (lv_at hl 1 rfl) ?_
  refine lv_iload hx hb dL_law_404 (lv_at hl 0 rfl) ?_
  refine lv_iconst (v := nI 2) hx hb dL_law_406 (by decide) ?_
  refine lv_iadd hx hb dL_law_407 ?_
  refine st_i (y := nI (i + 2)) (nI_add _ _) ?_
  refine la_sld hx hb hX0 hbl hbA hS (i := (i + 2)) (by omega) (by omega) dL_law_408 ?_
  refine lv_aload_n hx hb dL_law_409 rfl (lv_at hl 4 rfl) ?_
  have hzH := zA_W hzA hS
  refine wr_call (X := MW mo km M) (vx_va (vx_runSX (As := [.ref (ad 7), .int (xs (i + 1)), .int (xs (i + 2)), .ref oa]) (rest := []) ⟨hx, hb, hml, hown, hta⟩ (h_L_cut l hlt dC dI ad k oa ko o P F T H.size (xs (i + 1)) (xs (i + 2)) g3 g4 g5 g6) (vx_cwSW 4 hta (gH m_303 m_304 m_0 m_305) rfl rfl rfl (by decide +kernel) ⟨Nat.le_of_ble_eq_true rfl, Nat.le_of_ble_eq_true rfl⟩) (hd_S hX hss hzH (hK.sub [10, 11, 12, 13, 14, 15, 16, 17, 18, 19, 20] rfl) (hP.sub [11, 12, 13, 14, 15, 16, 17, 18, 19, 20, 21, 22, 23] rfl) (hD.sub [11, 12, 13, 14, 15, 16, 17, 18, 19, 20, 21, 22, 23] (by decide) rfl)) rfl rfl hl.1 rfl (lv_room (Nat.le_of_ble_eq_true rfl)) dL_law_410 ⟨by omega, by omega⟩)) hP hD hS hA rfl (fun H locs hP hD hS => ?_)
  have hP : va_P (dC, dI) vwCl (MW mo km M ++ (OW oa ko (oU (kCu P T (xs (i + 1)) (xs (i + 2))) o ((nI P.rows).toInt64)) ++ (PW ad k (pCu P T (xs (i + 1)) (xs (i + 2))) ++ (FW ad k (fCu P F T (xs (i + 1)) (xs (i + 2))) ++ TW ad k T)))) H := hP
  have hD : va_D (fun q : Nat => s.heap.size ≤ q) (MW mo km M ++ (OW oa ko (oU (kCu P T (xs (i + 1)) (xs (i + 2))) o ((nI P.rows).toInt64)) ++ (PW ad k (pCu P T (xs (i + 1)) (xs (i + 2))) ++ (FW ad k (fCu P F T (xs (i + 1)) (xs (i + 2))) ++ TW ad k T)))) := hD
  refine W.eq (g2 := F0 m 413 ls [.int (nI (kCu P T (xs (i + 1)) (xs (i + 2))))]) rfl ?_
  refine lv_istore (lv' := [(5, .int (nI (kCu P T (xs (i + 1)) (xs (i + 2))))), (4, .int (nI i)), (0, .ref b), (1, .ref (ad 7)), (2, .ref (mo 0)), (3, .ref oa)]) hx hb dL_law_413 hl (by decide) rfl (fun ls hl => ?_)
  refine lv_aload_n hx hb dL_law_415 rfl (lv_at hl 4 rfl) ?_
  refine lv_aload_n hx hb dL_law_416 rfl (lv_at hl 2 rfl) ?_
  refine lv_iload hx hb dL_law_417 (lv_at hl 1 rfl) ?_
  refine lv_iconst (v := nI 1) hx hb dL_law_419 (by decide) ?_
  refine lv_iadd hx hb dL_law_420 ?_
  refine st_i (y := nI (i + 1)) (nI_add _ _) ?_
  refine la_sld hx hb hX0 hbl hbA hS (i := (i + 1)) (by omega) (by omega) dL_law_421 ?_
  refine lv_aload_n hx hb dL_law_422 rfl (lv_at hl 2 rfl) ?_
  refine lv_iload hx hb dL_law_423 (lv_at hl 1 rfl) ?_
  refine lv_iconst (v := nI 2) hx hb dL_law_425 (by decide) ?_
  refine lv_iadd hx hb dL_law_426 ?_
  refine st_i (y := nI (i + 2)) (nI_add _ _) ?_
  refine la_sld hx hb hX0 hbl hbA hS (i := (i + 2)) (by omega) (by omega) dL_law_427 ?_
  have hP2 : va_P (dC, dI) vwCl ((OW oa ko (oU (kCu P T (xs (i + 1)) (xs (i + 2))) o ((nI P.rows).toInt64)) ++ (PW ad k (pCu P T (xs (i + 1)) (xs (i + 2))) ++ (FW ad k (fCu P F T (xs (i + 1)) (xs (i + 2))) ++ TW ad k T))) ++ MW mo km M) H := hP.sub [11, 12, 13, 14, 15, 16, 17, 18, 19, 20, 21, 22, 23, 0, 1, 2, 3, 4, 5, 6, 7, 8, 9, 10] rfl
  have hD2 : va_D (fun q : Nat => s.heap.size ≤ q) ((OW oa ko (oU (kCu P T (xs (i + 1)) (xs (i + 2))) o ((nI P.rows).toInt64)) ++ (PW ad k (pCu P T (xs (i + 1)) (xs (i + 2))) ++ (FW ad k (fCu P F T (xs (i + 1)) (xs (i + 2))) ++ TW ad k T))) ++ MW mo km M) := hD.sub [11, 12, 13, 14, 15, 16, 17, 18, 19, 20, 21, 22, 23, 0, 1, 2, 3, 4, 5, 6, 7, 8, 9, 10] (by decide) rfl
  refine wr_call (X := OW oa ko (oU (kCu P T (xs (i + 1)) (xs (i + 2))) o ((nI P.rows).toInt64)) ++ (PW ad k (pCu P T (xs (i + 1)) (xs (i + 2))) ++ (FW ad k (fCu P F T (xs (i + 1)) (xs (i + 2))) ++ TW ad k T))) (va_runV (As := [.int (xs (i + 1)), .int (xs (i + 2))]) (rest := []) ⟨hx, hb, hml, hown, hta⟩ (c_M_cut l dC dI mo km M H.size (xs (i + 1)) (xs (i + 2)) (by omega) (by omega)) (cwV 2 hta (gV m_578 m_579 m_580 m_4 m_581) rfl rfl rfl (by decide +kernel) ⟨Nat.le_of_ble_eq_true rfl, Nat.le_of_ble_eq_true rfl⟩) (wr_V xT_ok trivial (hK.sub [0, 1, 2, 3, 4, 5, 6, 7, 8, 9] rfl) (hP.sub [0, 1, 2, 3, 4, 5, 6, 7, 8, 9, 10] rfl) (hD.sub [0, 1, 2, 3, 4, 5, 6, 7, 8, 9, 10] (by decide) rfl) (ci := 2) (q0 := 0) rfl rfl) rfl rfl hl.1 rfl (lv_room (Nat.le_of_ble_eq_true rfl)) dL_law_428 ⟨by omega, by omega⟩) hP2 hD2 hS hA rfl (fun H locs hP hD hS => ?_)
  clear hP2 hD2
  obtain ⟨e1, e2, e3⟩ := o_cut Re (xs (i + 1)) (xs (i + 2))
  have hP : va_P (dC, dI) vwCl (MW mo km ((cuM M (xs (i + 1)) (xs (i + 2))).2) ++ (OW oa ko (oU (kCu P T (xs (i + 1)) (xs (i + 2))) o ((nI P.rows).toInt64)) ++ (PW ad k (pCu P T (xs (i + 1)) (xs (i + 2))) ++ (FW ad k (fCu P F T (xs (i + 1)) (xs (i + 2))) ++ TW ad k T)))) H := hP.sub [13, 14, 15, 16, 17, 18, 19, 20, 21, 22, 23, 0, 1, 2, 3, 4, 5, 6, 7, 8, 9, 10, 11, 12] rfl
  have hD : va_D (fun q : Nat => s.heap.size ≤ q) (MW mo km ((cuM M (xs (i + 1)) (xs (i + 2))).2) ++ (OW oa ko (oU (kCu P T (xs (i + 1)) (xs (i + 2))) o ((nI P.rows).toInt64)) ++ (PW ad k (pCu P T (xs (i + 1)) (xs (i + 2))) ++ (FW ad k (fCu P F T (xs (i + 1)) (xs (i + 2))) ++ TW ad k T)))) := hD.sub [13, 14, 15, 16, 17, 18, 19, 20, 21, 22, 23, 0, 1, 2, 3, 4, 5, 6, 7, 8, 9, 10, 11, 12] (by decide) rfl
  refine W.eq (g2 := F0 m 431 ls [.int ((cuM M (xs (i + 1)) (xs (i + 2))).1)]) rfl ?_
  refine lv_istore (lv' := [(6, .int ((cuM M (xs (i + 1)) (xs (i + 2))).1)), (5, .int (nI (kCu P T (xs (i + 1)) (xs (i + 2))))), (4, .int (nI i)), (0, .ref b), (1, .ref (ad 7)), (2, .ref (mo 0)), (3, .ref oa)]) hx hb dL_law_431 hl (by decide) rfl (fun ls hl => ?_)
  refine lv_aload_n hx hb dL_law_433 rfl (lv_at hl 5 rfl) ?_
  refine rd_call (va_runV (As := []) (rest := []) ⟨hx, hb, hml, hown, hta⟩ (c_M_thrown l dC dI mo km ((cuM M (xs (i + 1)) (xs (i + 2))).2)) (cwV 0 hta (gV m_550 m_551 m_552 m_4 m_553) rfl rfl rfl (by decide +kernel) ⟨Nat.le_of_ble_eq_true rfl, Nat.le_of_ble_eq_true rfl⟩) (rd_V xT_ok trivial (hK.sub [0, 1, 2, 3, 4, 5, 6, 7, 8, 9] rfl) (hP.sub [0, 1, 2, 3, 4, 5, 6, 7, 8, 9, 10] rfl) (ci := 2) (q0 := 0) rfl rfl) rfl rfl hl.1 rfl (lv_room (Nat.le_of_ble_eq_true rfl)) dL_law_434 ⟨by omega, by omega⟩) ?_
  refine W.eq (g2 := F0 m 437 ls [.int (nI ((cuM M (xs (i + 1)) (xs (i + 2))).2).thr)]) rfl ?_
  refine st_i (y := nI (kCu P T (xs (i + 1)) (xs (i + 2)))) (congrArg nI e1) ?_
  refine lv_iload hx hb dL_law_437 (lv_at hl 1 rfl) ?_
  refine lv_icmp_eq (tgt := 444) hx hb dL_law_439 (by decide) (fun c1 => ?_) (fun c1 => ?_)
  · refine lv_iload hx hb dL_law_444 (lv_at hl 1 rfl) ?_
    refine lv_if_ne (tgt := 461) hx hb dL_law_446 (by decide) (fun c2 => ?_) (fun c2 => ?_)
    · refine lv_goto (tgt := 934) hx hb dL_law_461 (by decide) ?_
      exact kk (pCu P T (xs (i + 1)) (xs (i + 2))) (fCu P F T (xs (i + 1)) (xs (i + 2))) T ((cuM M (xs (i + 1)) (xs (i + 2))).2) (oU (kCu P T (xs (i + 1)) (xs (i + 2))) o ((nI P.rows).toInt64)) H locs ls e2 hP hD hS (lv_sub hl [2, 3, 4, 5, 6] rfl)
    · have hk0 := k0_of (by unfold kCu; (repeat' split) <;> omega) c2
      have e4 := e3 hk0
      refine lv_aload_n hx hb dL_law_449 rfl (lv_at hl 6 rfl) ?_
      refine lv_iconst (v := nI 0) hx hb dL_law_450 (by decide) ?_
      refine na_lald hx hb hK hP 11 10 rfl rfl (i := 0) (by decide) (by decide) dL_law_451 ?_
      refine st_l (y := (nI P.rows).toInt64) (oU_at hk0) ?_
      refine lv_iload hx hb dL_law_452 (lv_at hl 0 rfl) ?_
      refine lv_i2l (v := ((cuM M (xs (i + 1)) (xs (i + 2))).1).toInt64) hx hb dL_law_454 rfl ?_
      refine st_l (y := (nI P.rows).toInt64) (congrArg Int32.toInt64 e4) ?_
      refine ll_eq (tgt := 461) hx hb dL_law_455 dL_law_456 (by decide) (fun c3 => ?_) (fun c3 => ?_)
      · refine lv_goto (tgt := 934) hx hb dL_law_461 (by decide) ?_
        exact kk (pCu P T (xs (i + 1)) (xs (i + 2))) (fCu P F T (xs (i + 1)) (xs (i + 2))) T ((cuM M (xs (i + 1)) (xs (i + 2))).2) (oU (kCu P T (xs (i + 1)) (xs (i + 2))) o ((nI P.rows).toInt64)) H locs ls e2 hP hD hS (lv_sub hl [2, 3, 4, 5, 6] rfl)
      · exact absurd rfl c3
  · exact absurd rfl c1
