set_option maxHeartbeats 4000000 in
set_option maxRecDepth 100000 in
theorem op_dual {p : Program} {e : Env} {s : State} {m : MethodId} {below : List Frame} {meth : Method} {c : Code} (l : Launch) (hlt : l.stackTraces = false) {b L : Nat} {xs : Nat → Int32} (hL : L ≤ 2561) (C0 : lw_At p s m meth c b L xs) (dC : Nat → ClassId) (dI : Nat → Nat → Nat) (hX : nW s) (hss : sW s) (hzA : zA s) (ad : Nat → Nat) (k : Nat → ClassId) (oa : Nat) (ko : ClassId) (mo : Nat → Nat) (km : Nat → ClassId) (hK : va_K (dC, dI) vwCl (MK km ++ (OQ ko ++ (PK k ++ (FK k ++ TK k)))) s) (P : PS) (F : Nat → Int32) (T : TS) (M : MS) (o : Nat → Int64) (H : Heap) (locs : List Loc) (ls : Array Slot) (cells slots i : Nat) (Re : Rel P F T M) (hi : i + 5 ≤ L) (hP : va_P (dC, dI) vwCl (MW mo km M ++ (OW oa ko o ++ (PW ad k P ++ (FW ad k F ++ TW ad k T)))) H) (hD : va_D (fun q : Nat => s.heap.size ≤ q) (MW mo km M ++ (OW oa ko o ++ (PW ad k P ++ (FW ad k F ++ TW ad k T))))) (hS : va_S (fun q : Nat => s.heap.size ≤ q) s.heap H locs) (hl : lv_has ls 8 [(4, .int (nI i)), (0, .ref b), (1, .ref (ad 7)), (2, .ref (mo 0)), (3, .ref oa)]) (hc1 : cells + 1 ≤ room_1.cells) (hc2 : slots + 6 ≤ room_1.slots) (kk : ∀ (P : PS) (F : Nat → Int32) (T : TS) (M : MS) (o : Nat → Int64) (H : Heap) (locs : List Loc) (ls : Array Slot), Rel P F T M → va_P (dC, dI) vwCl (MW mo km M ++ (OW oa ko o ++ (PW ad k P ++ (FW ad k F ++ TW ad k T)))) H → va_D (fun q : Nat => s.heap.size ≤ q) (MW mo km M ++ (OW oa ko o ++ (PW ad k P ++ (FW ad k F ++ TW ad k T)))) → va_S (fun q : Nat => s.heap.size ≤ q) s.heap H locs → lv_has ls 8 [(4, .int (nI i)), (0, .ref b), (1, .ref (ad 7)), (2, .ref (mo 0)), (3, .ref oa)] → W p l e room_1 s m #[Value.ref b] below meth c H locs (cells + 1) (slots + 6) (lw_Z below #[Value.ref b] s) (F0 m 934 ls [])) : W p l e room_1 s m #[Value.ref b] below meth c H locs cells slots (lw_Z below #[Value.ref b] s) (F0 m 749 ls []) := by
  obtain ⟨hx, hb, hr, hml, hown, hts, hX0, hbl, hlocks, hgv⟩ := id C0
  have hown : s.vm.findClass RL = some m.cls := hown
  have hta : ∀ w ∈ AW, w.before #[Value.ref b] s = true := fun w h => hts w (AW_in h)
  have hA : ∀ q : Nat, s.heap.size ≤ q → (fun q : Nat => s.heap.size ≤ q) q := fun _ h => h
  have hbA : ¬ (fun q : Nat => s.heap.size ≤ q) b := Nat.not_le.mpr hbl
  obtain ⟨g1, g2, g3, g4, g5, g6, g7, g8, g9, g10, g11, g12⟩ := Re.lim
  refine lv_aload_n hx hb dL_law_749 rfl (lv_at hl 2 rfl) ?_
  refine lv_aload_n hx hb dL_law_750 rfl (lv_at hl 1 rfl) ?_
  refine lv_iload hx hb dL_law_751 (lv_at hl 0 rfl) ?_
  refine lv_iconst (v := nI 1) hx hb dL_law_753 (by decide) ?_
  refine lv_iadd hx hb dL_law_754 ?_
  refine st_i (y := nI (i + 1)) (nI_add _ _) ?_
  refine la_sld hx hb hX0 hbl hbA hS (i := (i + 1)) (by omega) (by omega) dL_law_755 ?_
  refine lv_aload_n hx hb dL_law_756 rfl (lv_at hl 1 rfl) ?_
  refine lv_iload hx hb dL_law_757 (lv_at hl 0 rfl) ?_
  refine lv_iconst (v := nI 2) hx hb dL_law_759 (by decide) ?_
  refine lv_iadd hx hb dL_law_760 ?_
  refine st_i (y := nI (i + 2)) (nI_add _ _) ?_
  refine la_sld hx hb hX0 hbl hbA hS (i := (i + 2)) (by omega) (by omega) dL_law_761 ?_
  refine lv_aload_n hx hb dL_law_762 rfl (lv_at hl 4 rfl) ?_
  have hzH := zA_W hzA hS
  refine wr_call (X := MW mo km M) (vx_va (vx_runSX (As := [.ref (ad 7), .int (xs (i + 1)), .int (xs (i + 2)), .ref oa]) (rest := []) ⟨hx, hb, hml, hown, hta⟩ (h_L_dual l hlt dC dI ad k oa ko o P F T H.size (xs (i + 1)) (xs (i + 2)) g3 g4 g5 g6) (vx_cwSW 4 hta (gH m_459 m_460 m_0 m_461) rfl rfl rfl (by decide +kernel) ⟨Nat.le_of_ble_eq_true rfl, Nat.le_of_ble_eq_true rfl⟩) (hd_S hX hss hzH (hK.sub [10, 11, 12, 13, 14, 15, 16, 17, 18, 19, 20] rfl) (hP.sub [11, 12, 13, 14, 15, 16, 17, 18, 19, 20, 21, 22, 23] rfl) (hD.sub [11, 12, 13, 14, 15, 16, 17, 18, 19, 20, 21, 22, 23] (by decide) rfl)) rfl rfl hl.1 rfl (lv_room (Nat.le_of_ble_eq_true rfl)) dL_law_763 ⟨by omega, by omega⟩)) hP hD hS hA rfl (fun H locs hP hD hS => ?_)
  have hP : va_P (dC, dI) vwCl (MW mo km M ++ (OW oa ko (oU (kSh P.rows (xs (i + 1)) (xs (i + 2))) o (ltM (duL P.K P.L T ((idx P.rows (xs (i + 1))).getD 0) 0 (liM P.K P.rin ((idx P.rows (xs (i + 1))).getD 0)) 0) T.d (xs (i + 2)))) ++ (PW ad k P ++ (FW ad k F ++ TW ad k T)))) H := hP
  have hD : va_D (fun q : Nat => s.heap.size ≤ q) (MW mo km M ++ (OW oa ko (oU (kSh P.rows (xs (i + 1)) (xs (i + 2))) o (ltM (duL P.K P.L T ((idx P.rows (xs (i + 1))).getD 0) 0 (liM P.K P.rin ((idx P.rows (xs (i + 1))).getD 0)) 0) T.d (xs (i + 2)))) ++ (PW ad k P ++ (FW ad k F ++ TW ad k T)))) := hD
  refine W.eq (g2 := F0 m 766 ls [.int (nI (kSh P.rows (xs (i + 1)) (xs (i + 2))))]) rfl ?_
  refine lv_istore (lv' := [(5, .int (nI (kSh P.rows (xs (i + 1)) (xs (i + 2))))), (4, .int (nI i)), (0, .ref b), (1, .ref (ad 7)), (2, .ref (mo 0)), (3, .ref oa)]) hx hb dL_law_766 hl (by decide) rfl (fun ls hl => ?_)
  refine lv_aload_n hx hb dL_law_768 rfl (lv_at hl 4 rfl) ?_
  refine lv_aload_n hx hb dL_law_769 rfl (lv_at hl 2 rfl) ?_
  refine lv_iload hx hb dL_law_770 (lv_at hl 1 rfl) ?_
  refine lv_iconst (v := nI 1) hx hb dL_law_772 (by decide) ?_
  refine lv_iadd hx hb dL_law_773 ?_
  refine st_i (y := nI (i + 1)) (nI_add _ _) ?_
  refine la_sld hx hb hX0 hbl hbA hS (i := (i + 1)) (by omega) (by omega) dL_law_774 ?_
  refine lv_aload_n hx hb dL_law_775 rfl (lv_at hl 2 rfl) ?_
  refine lv_iload hx hb dL_law_776 (lv_at hl 1 rfl) ?_
  refine lv_iconst (v := nI 2) hx hb dL_law_778 (by decide) ?_
  refine lv_iadd hx hb dL_law_779 ?_
  refine st_i (y := nI (i + 2)) (nI_add _ _) ?_
  refine la_sld hx hb hX0 hbl hbA hS (i := (i + 2)) (by omega) (by omega) dL_law_780 ?_
  have hP2 : va_P (dC, dI) vwCl ((OW oa ko (oU (kSh P.rows (xs (i + 1)) (xs (i + 2))) o (ltM (duL P.K P.L T ((idx P.rows (xs (i + 1))).getD 0) 0 (liM P.K P.rin ((idx P.rows (xs (i + 1))).getD 0)) 0) T.d (xs (i + 2)))) ++ (PW ad k P ++ (FW ad k F ++ TW ad k T))) ++ MW mo km M) H := hP.sub [11, 12, 13, 14, 15, 16, 17, 18, 19, 20, 21, 22, 23, 0, 1, 2, 3, 4, 5, 6, 7, 8, 9, 10] rfl
  have hD2 : va_D (fun q : Nat => s.heap.size ≤ q) ((OW oa ko (oU (kSh P.rows (xs (i + 1)) (xs (i + 2))) o (ltM (duL P.K P.L T ((idx P.rows (xs (i + 1))).getD 0) 0 (liM P.K P.rin ((idx P.rows (xs (i + 1))).getD 0)) 0) T.d (xs (i + 2)))) ++ (PW ad k P ++ (FW ad k F ++ TW ad k T))) ++ MW mo km M) := hD.sub [11, 12, 13, 14, 15, 16, 17, 18, 19, 20, 21, 22, 23, 0, 1, 2, 3, 4, 5, 6, 7, 8, 9, 10] (by decide) rfl
  refine wr_call (X := OW oa ko (oU (kSh P.rows (xs (i + 1)) (xs (i + 2))) o (ltM (duL P.K P.L T ((idx P.rows (xs (i + 1))).getD 0) 0 (liM P.K P.rin ((idx P.rows (xs (i + 1))).getD 0)) 0) T.d (xs (i + 2)))) ++ (PW ad k P ++ (FW ad k F ++ TW ad k T))) (va_runV (As := [.int (xs (i + 1)), .int (xs (i + 2))]) (rest := []) ⟨hx, hb, hml, hown, hta⟩ (c_M_dual l dC dI mo km M H.size (xs (i + 1)) (xs (i + 2)) g8 g9 (by omega) g11) (cwV 2 hta (gV m_647 m_648 m_649 m_4 m_650) rfl rfl rfl (by decide +kernel) ⟨Nat.le_of_ble_eq_true rfl, Nat.le_of_ble_eq_true rfl⟩) (wr_V xT_ok trivial (hK.sub [0, 1, 2, 3, 4, 5, 6, 7, 8, 9] rfl) (hP.sub [0, 1, 2, 3, 4, 5, 6, 7, 8, 9, 10] rfl) (hD.sub [0, 1, 2, 3, 4, 5, 6, 7, 8, 9, 10] (by decide) rfl) (ci := 2) (q0 := 0) rfl rfl) rfl rfl hl.1 rfl (lv_room (Nat.le_of_ble_eq_true rfl)) dL_law_781 ⟨by omega, by omega⟩) hP2 hD2 hS hA rfl (fun H locs hP hD hS => ?_)
  clear hP2 hD2
  obtain ⟨e1, e2, e3⟩ := o_dual Re (xs (i + 1)) (xs (i + 2))
  have hP : va_P (dC, dI) vwCl (MW mo km ((duM M (xs (i + 1)) (xs (i + 2))).2) ++ (OW oa ko (oU (kSh P.rows (xs (i + 1)) (xs (i + 2))) o (ltM (duL P.K P.L T ((idx P.rows (xs (i + 1))).getD 0) 0 (liM P.K P.rin ((idx P.rows (xs (i + 1))).getD 0)) 0) T.d (xs (i + 2)))) ++ (PW ad k P ++ (FW ad k F ++ TW ad k T)))) H := hP.sub [13, 14, 15, 16, 17, 18, 19, 20, 21, 22, 23, 0, 1, 2, 3, 4, 5, 6, 7, 8, 9, 10, 11, 12] rfl
  have hD : va_D (fun q : Nat => s.heap.size ≤ q) (MW mo km ((duM M (xs (i + 1)) (xs (i + 2))).2) ++ (OW oa ko (oU (kSh P.rows (xs (i + 1)) (xs (i + 2))) o (ltM (duL P.K P.L T ((idx P.rows (xs (i + 1))).getD 0) 0 (liM P.K P.rin ((idx P.rows (xs (i + 1))).getD 0)) 0) T.d (xs (i + 2)))) ++ (PW ad k P ++ (FW ad k F ++ TW ad k T)))) := hD.sub [13, 14, 15, 16, 17, 18, 19, 20, 21, 22, 23, 0, 1, 2, 3, 4, 5, 6, 7, 8, 9, 10, 11, 12] (by decide) rfl
  refine W.eq (g2 := F0 m 784 ls [.long ((duM M (xs (i + 1)) (xs (i + 2))).1)]) rfl ?_
  refine lv_lstore (lv' := [(6, .long ((duM M (xs (i + 1)) (xs (i + 2))).1)), (5, .int (nI (kSh P.rows (xs (i + 1)) (xs (i + 2))))), (4, .int (nI i)), (0, .ref b), (1, .ref (ad 7)), (2, .ref (mo 0)), (3, .ref oa)]) hx hb dL_law_784 hl (by decide) rfl (fun ls hl => ?_)
  refine lv_aload_n hx hb dL_law_786 rfl (lv_at hl 5 rfl) ?_
  refine rd_call (va_runV (As := []) (rest := []) ⟨hx, hb, hml, hown, hta⟩ (c_M_thrown l dC dI mo km ((duM M (xs (i + 1)) (xs (i + 2))).2)) (cwV 0 hta (gV m_550 m_551 m_552 m_4 m_553) rfl rfl rfl (by decide +kernel) ⟨Nat.le_of_ble_eq_true rfl, Nat.le_of_ble_eq_true rfl⟩) (rd_V xT_ok trivial (hK.sub [0, 1, 2, 3, 4, 5, 6, 7, 8, 9] rfl) (hP.sub [0, 1, 2, 3, 4, 5, 6, 7, 8, 9, 10] rfl) (ci := 2) (q0 := 0) rfl rfl) rfl rfl hl.1 rfl (lv_room (Nat.le_of_ble_eq_true rfl)) dL_law_787 ⟨by omega, by omega⟩) ?_
  refine W.eq (g2 := F0 m 790 ls [.int (nI ((duM M (xs (i + 1)) (xs (i + 2))).2).thr)]) rfl ?_
  refine st_i (y := nI (kSh P.rows (xs (i + 1)) (xs (i + 2)))) (congrArg nI e1) ?_
  refine lv_iload hx hb dL_law_790 (lv_at hl 1 rfl) ?_
  refine lv_icmp_eq (tgt := 797) hx hb dL_law_792 (by decide) (fun c1 => ?_) (fun c1 => ?_)
  · refine lv_iload hx hb dL_law_797 (lv_at hl 1 rfl) ?_
    refine lv_if_ne (tgt := 813) hx hb dL_law_799 (by decide) (fun c2 => ?_) (fun c2 => ?_)
    · refine lv_goto (tgt := 934) hx hb dL_law_813 (by decide) ?_
      exact kk P F T ((duM M (xs (i + 1)) (xs (i + 2))).2) (oU (kSh P.rows (xs (i + 1)) (xs (i + 2))) o (ltM (duL P.K P.L T ((idx P.rows (xs (i + 1))).getD 0) 0 (liM P.K P.rin ((idx P.rows (xs (i + 1))).getD 0)) 0) T.d (xs (i + 2)))) H locs ls e2 hP hD hS (lv_sub hl [2, 3, 4, 5, 6] rfl)
    · have hk0 := k0_of (by unfold kSh; (repeat' split) <;> omega) c2
      have e4 := e3 hk0
      refine lv_aload_n hx hb dL_law_802 rfl (lv_at hl 6 rfl) ?_
      refine lv_iconst (v := nI 0) hx hb dL_law_803 (by decide) ?_
      refine na_lald hx hb hK hP 11 10 rfl rfl (i := 0) (by decide) (by decide) dL_law_804 ?_
      refine st_l (y := ltM (duL P.K P.L T ((idx P.rows (xs (i + 1))).getD 0) 0 (liM P.K P.rin ((idx P.rows (xs (i + 1))).getD 0)) 0) T.d (xs (i + 2))) (oU_at hk0) ?_
      refine lv_lload hx hb dL_law_805 (lv_at hl 0 rfl) ?_
      refine st_l (y := ltM (duL P.K P.L T ((idx P.rows (xs (i + 1))).getD 0) 0 (liM P.K P.rin ((idx P.rows (xs (i + 1))).getD 0)) 0) T.d (xs (i + 2))) e4 ?_
      refine ll_eq (tgt := 813) hx hb dL_law_807 dL_law_808 (by decide) (fun c3 => ?_) (fun c3 => ?_)
      · refine lv_goto (tgt := 934) hx hb dL_law_813 (by decide) ?_
        exact kk P F T ((duM M (xs (i + 1)) (xs (i + 2))).2) (oU (kSh P.rows (xs (i + 1)) (xs (i + 2))) o (ltM (duL P.K P.L T ((idx P.rows (xs (i + 1))).getD 0) 0 (liM P.K P.rin ((idx P.rows (xs (i + 1))).getD 0)) 0) T.d (xs (i + 2)))) H locs ls e2 hP hD hS (lv_sub hl [2, 3, 4, 5, 6] rfl)
      · exact absurd rfl c3
  · exact absurd rfl c1

set_option maxHeartbeats 4000000 in
set_option maxRecDepth 100000 in
theorem op_factorOf {p : Program} {e : Env} {s : State} {m : MethodId} {below : List Frame} {meth : Method} {c : Code} (l : Launch) (hlt : l.stackTraces = false) {b L : Nat} {xs : Nat → Int32} (hL : L ≤ 2561) (C0 : lw_At p s m meth c b L xs) (dC : Nat → ClassId) (dI : Nat → Nat → Nat) (hX : nW s) (hss : sW s) (hzA : zA s) (ad : Nat → Nat) (k : Nat → ClassId) (oa : Nat) (ko : ClassId) (mo : Nat → Nat) (km : Nat → ClassId) (hK : va_K (dC, dI) vwCl (MK km ++ (OQ ko ++ (PK k ++ (FK k ++ TK k)))) s) (P : PS) (F : Nat → Int32) (T : TS) (M : MS) (o : Nat → Int64) (H : Heap) (locs : List Loc) (ls : Array Slot) (cells slots i : Nat) (Re : Rel P F T M) (hi : i + 5 ≤ L) (hP : va_P (dC, dI) vwCl (MW mo km M ++ (OW oa ko o ++ (PW ad k P ++ (FW ad k F ++ TW ad k T)))) H) (hD : va_D (fun q : Nat => s.heap.size ≤ q) (MW mo km M ++ (OW oa ko o ++ (PW ad k P ++ (FW ad k F ++ TW ad k T))))) (hS : va_S (fun q : Nat => s.heap.size ≤ q) s.heap H locs) (hl : lv_has ls 8 [(4, .int (nI i)), (0, .ref b), (1, .ref (ad 7)), (2, .ref (mo 0)), (3, .ref oa)]) (hc1 : cells + 1 ≤ room_1.cells) (hc2 : slots + 6 ≤ room_1.slots) (kk : ∀ (P : PS) (F : Nat → Int32) (T : TS) (M : MS) (o : Nat → Int64) (H : Heap) (locs : List Loc) (ls : Array Slot), Rel P F T M → va_P (dC, dI) vwCl (MW mo km M ++ (OW oa ko o ++ (PW ad k P ++ (FW ad k F ++ TW ad k T)))) H → va_D (fun q : Nat => s.heap.size ≤ q) (MW mo km M ++ (OW oa ko o ++ (PW ad k P ++ (FW ad k F ++ TW ad k T)))) → va_S (fun q : Nat => s.heap.size ≤ q) s.heap H locs → lv_has ls 8 [(4, .int (nI i)), (0, .ref b), (1, .ref (ad 7)), (2, .ref (mo 0)), (3, .ref oa)] → W p l e room_1 s m #[Value.ref b] below meth c H locs (cells + 1) (slots + 6) (lw_Z below #[Value.ref b] s) (F0 m 934 ls [])) : W p l e room_1 s m #[Value.ref b] below meth c H locs cells slots (lw_Z below #[Value.ref b] s) (F0 m 816 ls []) := by
  obtain ⟨hx, hb, hr, hml, hown, hts, hX0, hbl, hlocks, hgv⟩ := id C0
  have hown : s.vm.findClass RL = some m.cls := hown
  have hta : ∀ w ∈ AW, w.before #[Value.ref b] s = true := fun w h => hts w (AW_in h)
  have hA : ∀ q : Nat, s.heap.size ≤ q → (fun q : Nat => s.heap.size ≤ q) q := fun _ h => h
  have hbA : ¬ (fun q : Nat => s.heap.size ≤ q) b := Nat.not_le.mpr hbl
  obtain ⟨g1, g2, g3, g4, g5, g6, g7, g8, g9, g10, g11, g12⟩ := Re.lim
  refine lv_aload_n hx hb dL_law_816 rfl (lv_at hl 2 rfl) ?_
  refine lv_aload_n hx hb dL_law_817 rfl (lv_at hl 1 rfl) ?_
  refine lv_iload hx hb dL_law_818 (lv_at hl 0 rfl) ?_
  refine lv_iconst (v := nI 1) hx hb dL_law_820 (by decide) ?_
  refine lv_iadd hx hb dL_law_821 ?_
  refine st_i (y := nI (i + 1)) (nI_add _ _) ?_
  refine la_sld hx hb hX0 hbl hbA hS (i := (i + 1)) (by omega) (by omega) dL_law_822 ?_
  refine lv_aload_n hx hb dL_law_823 rfl (lv_at hl 1 rfl) ?_
  refine lv_iload hx hb dL_law_824 (lv_at hl 0 rfl) ?_
  refine lv_iconst (v := nI 2) hx hb dL_law_826 (by decide) ?_
  refine lv_iadd hx hb dL_law_827 ?_
  refine st_i (y := nI (i + 2)) (nI_add _ _) ?_
  refine la_sld hx hb hX0 hbl hbA hS (i := (i + 2)) (by omega) (by omega) dL_law_828 ?_
  refine lv_aload_n hx hb dL_law_829 rfl (lv_at hl 4 rfl) ?_
  have hzH := zA_W hzA hS
  refine wr_call (X := MW mo km M) (vx_va (vx_runSX (As := [.ref (ad 7), .int (xs (i + 1)), .int (xs (i + 2)), .ref oa]) (rest := []) ⟨hx, hb, hml, hown, hta⟩ (h_L_factorOf l hlt dC dI ad k oa ko o P F T H.size (xs (i + 1)) (xs (i + 2)) g3 g4 g5 g6) (vx_cwSW 4 hta (gH m_474 m_475 m_0 m_476) rfl rfl rfl (by decide +kernel) ⟨Nat.le_of_ble_eq_true rfl, Nat.le_of_ble_eq_true rfl⟩) (hd_S hX hss hzH (hK.sub [10, 11, 12, 13, 14, 15, 16, 17, 18, 19, 20] rfl) (hP.sub [11, 12, 13, 14, 15, 16, 17, 18, 19, 20, 21, 22, 23] rfl) (hD.sub [11, 12, 13, 14, 15, 16, 17, 18, 19, 20, 21, 22, 23] (by decide) rfl)) rfl rfl hl.1 rfl (lv_room (Nat.le_of_ble_eq_true rfl)) dL_law_830 ⟨by omega, by omega⟩)) hP hD hS hA rfl (fun H locs hP hD hS => ?_)
  have hP : va_P (dC, dI) vwCl (MW mo km M ++ (OW oa ko (oU (kFo P (xs (i + 1)) (xs (i + 2))) o (ltM (foL P.K P.L T (lvM T 1 T.h none) ((idx P.rows (xs (i + 1))).getD 0) 0 (liM P.K P.rin ((idx P.rows (xs (i + 1))).getD 0)) 0) T.d (xs (i + 2)))) ++ (PW ad k P ++ (FW ad k F ++ TW ad k T)))) H := hP
  have hD : va_D (fun q : Nat => s.heap.size ≤ q) (MW mo km M ++ (OW oa ko (oU (kFo P (xs (i + 1)) (xs (i + 2))) o (ltM (foL P.K P.L T (lvM T 1 T.h none) ((idx P.rows (xs (i + 1))).getD 0) 0 (liM P.K P.rin ((idx P.rows (xs (i + 1))).getD 0)) 0) T.d (xs (i + 2)))) ++ (PW ad k P ++ (FW ad k F ++ TW ad k T)))) := hD
  refine W.eq (g2 := F0 m 833 ls [.int (nI (kFo P (xs (i + 1)) (xs (i + 2))))]) rfl ?_
  refine lv_istore (lv' := [(5, .int (nI (kFo P (xs (i + 1)) (xs (i + 2))))), (4, .int (nI i)), (0, .ref b), (1, .ref (ad 7)), (2, .ref (mo 0)), (3, .ref oa)]) hx hb dL_law_833 hl (by decide) rfl (fun ls hl => ?_)
  refine lv_aload_n hx hb dL_law_835 rfl (lv_at hl 4 rfl) ?_
  refine lv_aload_n hx hb dL_law_836 rfl (lv_at hl 2 rfl) ?_
  refine lv_iload hx hb dL_law_837 (lv_at hl 1 rfl) ?_
  refine lv_iconst (v := nI 1) hx hb dL_law_839 (by decide) ?_
  refine lv_iadd hx hb dL_law_840 ?_
  refine st_i (y := nI (i + 1)) (nI_add _ _) ?_
  refine la_sld hx hb hX0 hbl hbA hS (i := (i + 1)) (by omega) (by omega) dL_law_841 ?_
  refine lv_aload_n hx hb dL_law_842 rfl (lv_at hl 2 rfl) ?_
  refine lv_iload hx hb dL_law_843 (lv_at hl 1 rfl) ?_
  refine lv_iconst (v := nI 2) hx hb dL_law_845 (by decide) ?_
  refine lv_iadd hx hb dL_law_846 ?_
  refine st_i (y := nI (i + 2)) (nI_add _ _) ?_
  refine la_sld hx hb hX0 hbl hbA hS (i := (i + 2)) (by omega) (by omega) dL_law_847 ?_
  have hP2 : va_P (dC, dI) vwCl ((OW oa ko (oU (kFo P (xs (i + 1)) (xs (i + 2))) o (ltM (foL P.K P.L T (lvM T 1 T.h none) ((idx P.rows (xs (i + 1))).getD 0) 0 (liM P.K P.rin ((idx P.rows (xs (i + 1))).getD 0)) 0) T.d (xs (i + 2)))) ++ (PW ad k P ++ (FW ad k F ++ TW ad k T))) ++ MW mo km M) H := hP.sub [11, 12, 13, 14, 15, 16, 17, 18, 19, 20, 21, 22, 23, 0, 1, 2, 3, 4, 5, 6, 7, 8, 9, 10] rfl
  have hD2 : va_D (fun q : Nat => s.heap.size ≤ q) ((OW oa ko (oU (kFo P (xs (i + 1)) (xs (i + 2))) o (ltM (foL P.K P.L T (lvM T 1 T.h none) ((idx P.rows (xs (i + 1))).getD 0) 0 (liM P.K P.rin ((idx P.rows (xs (i + 1))).getD 0)) 0) T.d (xs (i + 2)))) ++ (PW ad k P ++ (FW ad k F ++ TW ad k T))) ++ MW mo km M) := hD.sub [11, 12, 13, 14, 15, 16, 17, 18, 19, 20, 21, 22, 23, 0, 1, 2, 3, 4, 5, 6, 7, 8, 9, 10] (by decide) rfl
  refine wr_call (X := OW oa ko (oU (kFo P (xs (i + 1)) (xs (i + 2))) o (ltM (foL P.K P.L T (lvM T 1 T.h none) ((idx P.rows (xs (i + 1))).getD 0) 0 (liM P.K P.rin ((idx P.rows (xs (i + 1))).getD 0)) 0) T.d (xs (i + 2)))) ++ (PW ad k P ++ (FW ad k F ++ TW ad k T))) (va_runV (As := [.int (xs (i + 1)), .int (xs (i + 2))]) (rest := []) ⟨hx, hb, hml, hown, hta⟩ (c_M_factorOf l dC dI mo km M H.size (xs (i + 1)) (xs (i + 2)) g8 g9 (by omega) g12 g11) (cwV 2 hta (gV m_655 m_656 m_657 m_4 m_658) rfl rfl rfl (by decide +kernel) ⟨Nat.le_of_ble_eq_true rfl, Nat.le_of_ble_eq_true rfl⟩) (wr_V xT_ok trivial (hK.sub [0, 1, 2, 3, 4, 5, 6, 7, 8, 9] rfl) (hP.sub [0, 1, 2, 3, 4, 5, 6, 7, 8, 9, 10] rfl) (hD.sub [0, 1, 2, 3, 4, 5, 6, 7, 8, 9, 10] (by decide) rfl) (ci := 2) (q0 := 0) rfl rfl) rfl rfl hl.1 rfl (lv_room (Nat.le_of_ble_eq_true rfl)) dL_law_848 ⟨by omega, by omega⟩) hP2 hD2 hS hA rfl (fun H locs hP hD hS => ?_)
  clear hP2 hD2
  obtain ⟨e1, e2, e3⟩ := o_factorOf Re (xs (i + 1)) (xs (i + 2))
  have hP : va_P (dC, dI) vwCl (MW mo km ((foM M (xs (i + 1)) (xs (i + 2))).2) ++ (OW oa ko (oU (kFo P (xs (i + 1)) (xs (i + 2))) o (ltM (foL P.K P.L T (lvM T 1 T.h none) ((idx P.rows (xs (i + 1))).getD 0) 0 (liM P.K P.rin ((idx P.rows (xs (i + 1))).getD 0)) 0) T.d (xs (i + 2)))) ++ (PW ad k P ++ (FW ad k F ++ TW ad k T)))) H := hP.sub [13, 14, 15, 16, 17, 18, 19, 20, 21, 22, 23, 0, 1, 2, 3, 4, 5, 6, 7, 8, 9, 10, 11, 12] rfl
  have hD : va_D (fun q : Nat => s.heap.size ≤ q) (MW mo km ((foM M (xs (i + 1)) (xs (i + 2))).2) ++ (OW oa ko (oU (kFo P (xs (i + 1)) (xs (i + 2))) o (ltM (foL P.K P.L T (lvM T 1 T.h none) ((idx P.rows (xs (i + 1))).getD 0) 0 (liM P.K P.rin ((idx P.rows (xs (i + 1))).getD 0)) 0) T.d (xs (i + 2)))) ++ (PW ad k P ++ (FW ad k F ++ TW ad k T)))) := hD.sub [13, 14, 15, 16, 17, 18, 19, 20, 21, 22, 23, 0, 1, 2, 3, 4, 5, 6, 7, 8, 9, 10, 11, 12] (by decide) rfl
  refine W.eq (g2 := F0 m 851 ls [.long ((foM M (xs (i + 1)) (xs (i + 2))).1)]) rfl ?_
  refine lv_lstore (lv' := [(6, .long ((foM M (xs (i + 1)) (xs (i + 2))).1)), (5, .int (nI (kFo P (xs (i + 1)) (xs (i + 2))))), (4, .int (nI i)), (0, .ref b), (1, .ref (ad 7)), (2, .ref (mo 0)), (3, .ref oa)]) hx hb dL_law_851 hl (by decide) rfl (fun ls hl => ?_)
  refine lv_aload_n hx hb dL_law_853 rfl (lv_at hl 5 rfl) ?_
  refine rd_call (va_runV (As := []) (rest := []) ⟨hx, hb, hml, hown, hta⟩ (c_M_thrown l dC dI mo km ((foM M (xs (i + 1)) (xs (i + 2))).2)) (cwV 0 hta (gV m_550 m_551 m_552 m_4 m_553) rfl rfl rfl (by decide +kernel) ⟨Nat.le_of_ble_eq_true rfl, Nat.le_of_ble_eq_true rfl⟩) (rd_V xT_ok trivial (hK.sub [0, 1, 2, 3, 4, 5, 6, 7, 8, 9] rfl) (hP.sub [0, 1, 2, 3, 4, 5, 6, 7, 8, 9, 10] rfl) (ci := 2) (q0 := 0) rfl rfl) rfl rfl hl.1 rfl (lv_room (Nat.le_of_ble_eq_true rfl)) dL_law_854 ⟨by omega, by omega⟩) ?_
  refine W.eq (g2 := F0 m 857 ls [.int (nI ((foM M (xs (i + 1)) (xs (i + 2))).2).thr)]) rfl ?_
  refine st_i (y := nI (kFo P (xs (i + 1)) (xs (i + 2)))) (congrArg nI e1) ?_
  refine lv_iload hx hb dL_law_857 (lv_at hl 1 rfl) ?_
  refine lv_icmp_eq (tgt := 864) hx hb dL_law_859 (by decide) (fun c1 => ?_) (fun c1 => ?_)
  · refine lv_iload hx hb dL_law_864 (lv_at hl 1 rfl) ?_
    refine lv_if_ne (tgt := 880) hx hb dL_law_866 (by decide) (fun c2 => ?_) (fun c2 => ?_)
    · refine lv_goto (tgt := 934) hx hb dL_law_880 (by decide) ?_
      exact kk P F T ((foM M (xs (i + 1)) (xs (i + 2))).2) (oU (kFo P (xs (i + 1)) (xs (i + 2))) o (ltM (foL P.K P.L T (lvM T 1 T.h none) ((idx P.rows (xs (i + 1))).getD 0) 0 (liM P.K P.rin ((idx P.rows (xs (i + 1))).getD 0)) 0) T.d (xs (i + 2)))) H locs ls e2 hP hD hS (lv_sub hl [2, 3, 4, 5, 6] rfl)
    · have hk0 := k0_of (by unfold kFo; (repeat' split) <;> omega) c2
      have e4 := e3 hk0
      refine lv_aload_n hx hb dL_law_869 rfl (lv_at hl 6 rfl) ?_
      refine lv_iconst (v := nI 0) hx hb dL_law_870 (by decide) ?_
      refine na_lald hx hb hK hP 11 10 rfl rfl (i := 0) (by decide) (by decide) dL_law_871 ?_
      refine st_l (y := ltM (foL P.K P.L T (lvM T 1 T.h none) ((idx P.rows (xs (i + 1))).getD 0) 0 (liM P.K P.rin ((idx P.rows (xs (i + 1))).getD 0)) 0) T.d (xs (i + 2))) (oU_at hk0) ?_
      refine lv_lload hx hb dL_law_872 (lv_at hl 0 rfl) ?_
      refine st_l (y := ltM (foL P.K P.L T (lvM T 1 T.h none) ((idx P.rows (xs (i + 1))).getD 0) 0 (liM P.K P.rin ((idx P.rows (xs (i + 1))).getD 0)) 0) T.d (xs (i + 2))) e4 ?_
      refine ll_eq (tgt := 880) hx hb dL_law_874 dL_law_875 (by decide) (fun c3 => ?_) (fun c3 => ?_)
      · refine lv_goto (tgt := 934) hx hb dL_law_880 (by decide) ?_
        exact kk P F T ((foM M (xs (i + 1)) (xs (i + 2))).2) (oU (kFo P (xs (i + 1)) (xs (i + 2))) o (ltM (foL P.K P.L T (lvM T 1 T.h none) ((idx P.rows (xs (i + 1))).getD 0) 0 (liM P.K P.rin ((idx P.rows (xs (i + 1))).getD 0)) 0) T.d (xs (i + 2)))) H locs ls e2 hP hD hS (lv_sub hl [2, 3, 4, 5, 6] rfl)
      · exact absurd rfl c3
  · exact absurd rfl c1

set_option maxHeartbeats 4000000 in
set_option maxRecDepth 100000 in
theorem op_check {p : Program} {e : Env} {s : State} {m : MethodId} {below : List Frame} {meth : Method} {c : Code} (l : Launch) (hlt : l.stackTraces = false) {b L : Nat} {xs : Nat → Int32} (hL : L ≤ 2561) (C0 : lw_At p s m meth c b L xs) (dC : Nat → ClassId) (dI : Nat → Nat → Nat) (hX : nW s) (hss : sW s) (hzA : zA s) (ad : Nat → Nat) (k : Nat → ClassId) (oa : Nat) (ko : ClassId) (mo : Nat → Nat) (km : Nat → ClassId) (hK : va_K (dC, dI) vwCl (MK km ++ (OQ ko ++ (PK k ++ (FK k ++ TK k)))) s) (P : PS) (F : Nat → Int32) (T : TS) (M : MS) (o : Nat → Int64) (H : Heap) (locs : List Loc) (ls : Array Slot) (cells slots i : Nat) (Re : Rel P F T M) (hi : i + 5 ≤ L) (hP : va_P (dC, dI) vwCl (MW mo km M ++ (OW oa ko o ++ (PW ad k P ++ (FW ad k F ++ TW ad k T)))) H) (hD : va_D (fun q : Nat => s.heap.size ≤ q) (MW mo km M ++ (OW oa ko o ++ (PW ad k P ++ (FW ad k F ++ TW ad k T))))) (hS : va_S (fun q : Nat => s.heap.size ≤ q) s.heap H locs) (hl : lv_has ls 8 [(4, .int (nI i)), (0, .ref b), (1, .ref (ad 7)), (2, .ref (mo 0)), (3, .ref oa)]) (hc1 : cells + 1 ≤ room_1.cells) (hc2 : slots + 6 ≤ room_1.slots) (kk : ∀ (P : PS) (F : Nat → Int32) (T : TS) (M : MS) (o : Nat → Int64) (H : Heap) (locs : List Loc) (ls : Array Slot), Rel P F T M → va_P (dC, dI) vwCl (MW mo km M ++ (OW oa ko o ++ (PW ad k P ++ (FW ad k F ++ TW ad k T)))) H → va_D (fun q : Nat => s.heap.size ≤ q) (MW mo km M ++ (OW oa ko o ++ (PW ad k P ++ (FW ad k F ++ TW ad k T)))) → va_S (fun q : Nat => s.heap.size ≤ q) s.heap H locs → lv_has ls 8 [(4, .int (nI i)), (0, .ref b), (1, .ref (ad 7)), (2, .ref (mo 0)), (3, .ref oa)] → W p l e room_1 s m #[Value.ref b] below meth c H locs (cells + 1) (slots + 6) (lw_Z below #[Value.ref b] s) (F0 m 934 ls [])) : W p l e room_1 s m #[Value.ref b] below meth c H locs cells slots (lw_Z below #[Value.ref b] s) (F0 m 883 ls []) := by
  obtain ⟨hx, hb, hr, hml, hown, hts, hX0, hbl, hlocks, hgv⟩ := id C0
  have hown : s.vm.findClass RL = some m.cls := hown
  have hta : ∀ w ∈ AW, w.before #[Value.ref b] s = true := fun w h => hts w (AW_in h)
  have hA : ∀ q : Nat, s.heap.size ≤ q → (fun q : Nat => s.heap.size ≤ q) q := fun _ h => h
  have hbA : ¬ (fun q : Nat => s.heap.size ≤ q) b := Nat.not_le.mpr hbl
  obtain ⟨g1, g2, g3, g4, g5, g6, g7, g8, g9, g10, g11, g12⟩ := Re.lim
  refine lv_aload_n hx hb dL_law_883 rfl (lv_at hl 2 rfl) ?_
  refine rd_call (va_runV (As := []) (rest := []) ⟨hx, hb, hml, hown, hta⟩ (c_P_check l dC dI ad k P F T  g3 g4 g5) (cwV 0 hta (gV m_100 m_101 m_102 m_1 m_103) rfl rfl rfl (by decide +kernel) ⟨Nat.le_of_ble_eq_true rfl, Nat.le_of_ble_eq_true rfl⟩) (rd_V nW_ok hX (hK.sub [11, 12, 13, 14, 15, 16, 17, 18, 19, 20] rfl) (hP.sub [12, 13, 14, 15, 16, 17, 18, 19, 20, 21, 22, 23] rfl) (ci := 1) (q0 := 0) rfl rfl) rfl rfl hl.1 rfl (lv_room (Nat.le_of_ble_eq_true rfl)) dL_law_884 ⟨by omega, by omega⟩) ?_
  refine W.eq (g2 := F0 m 887 ls [.int (nI (ckL P.K P.B F T 0 P.rows))]) rfl ?_
  refine lv_aload_n hx hb dL_law_887 rfl (lv_at hl 3 rfl) ?_
  have hP2 : va_P (dC, dI) vwCl ((OW oa ko o ++ (PW ad k P ++ (FW ad k F ++ TW ad k T))) ++ MW mo km M) H := hP.sub [11, 12, 13, 14, 15, 16, 17, 18, 19, 20, 21, 22, 23, 0, 1, 2, 3, 4, 5, 6, 7, 8, 9, 10] rfl
  have hD2 : va_D (fun q : Nat => s.heap.size ≤ q) ((OW oa ko o ++ (PW ad k P ++ (FW ad k F ++ TW ad k T))) ++ MW mo km M) := hD.sub [11, 12, 13, 14, 15, 16, 17, 18, 19, 20, 21, 22, 23, 0, 1, 2, 3, 4, 5, 6, 7, 8, 9, 10] (by decide) rfl
  refine wr_call (X := OW oa ko o ++ (PW ad k P ++ (FW ad k F ++ TW ad k T))) (va_runV (As := []) (rest := [.int (nI (ckL P.K P.B F T 0 P.rows))]) ⟨hx, hb, hml, hown, hta⟩ (c_M_check l dC dI mo km M H.size  g8 (by omega) (by omega)) (cwV 0 hta (gV m_663 m_664 m_665 m_4 m_666) rfl rfl rfl (by decide +kernel) ⟨Nat.le_of_ble_eq_true rfl, Nat.le_of_ble_eq_true rfl⟩) (wr_V xT_ok trivial (hK.sub [0, 1, 2, 3, 4, 5, 6, 7, 8, 9] rfl) (hP.sub [0, 1, 2, 3, 4, 5, 6, 7, 8, 9, 10] rfl) (hD.sub [0, 1, 2, 3, 4, 5, 6, 7, 8, 9, 10] (by decide) rfl) (ci := 2) (q0 := 0) rfl rfl) rfl rfl hl.1 rfl (lv_room (Nat.le_of_ble_eq_true rfl)) dL_law_888 ⟨by omega, by omega⟩) hP2 hD2 hS hA rfl (fun H locs hP hD hS => ?_)
  clear hP2 hD2
  have hP : va_P (dC, dI) vwCl (MW mo km (mTh M 0) ++ (OW oa ko o ++ (PW ad k P ++ (FW ad k F ++ TW ad k T)))) H := hP.sub [13, 14, 15, 16, 17, 18, 19, 20, 21, 22, 23, 0, 1, 2, 3, 4, 5, 6, 7, 8, 9, 10, 11, 12] rfl
  have hD : va_D (fun q : Nat => s.heap.size ≤ q) (MW mo km (mTh M 0) ++ (OW oa ko o ++ (PW ad k P ++ (FW ad k F ++ TW ad k T)))) := hD.sub [13, 14, 15, 16, 17, 18, 19, 20, 21, 22, 23, 0, 1, 2, 3, 4, 5, 6, 7, 8, 9, 10, 11, 12] (by decide) rfl
  refine W.eq (g2 := F0 m 891 ls [.int (nI (ckR M 0 M.ro)), .int (nI (ckL P.K P.B F T 0 P.rows))]) rfl ?_
  refine lv_icmp_eq (tgt := 934) hx hb dL_law_891 (by decide) (fun c1 => ?_) (fun c1 => ?_)
  · refine W.widen (k := cells + 1) (n := slots + 6) (by omega) (by omega) ?_
    exact kk P F T (mTh M 0) o H locs ls (Re.th 0) hP hD hS (lv_sub hl [0, 1, 2, 3, 4] rfl)
  · exact absurd (congrArg nI (o_check Re)) c1

set_option maxHeartbeats 4000000 in
set_option maxRecDepth 100000 in
theorem op_steps {p : Program} {e : Env} {s : State} {m : MethodId} {below : List Frame} {meth : Method} {c : Code} (l : Launch) (hlt : l.stackTraces = false) {b L : Nat} {xs : Nat → Int32} (hL : L ≤ 2561) (C0 : lw_At p s m meth c b L xs) (dC : Nat → ClassId) (dI : Nat → Nat → Nat) (hX : nW s) (hss : sW s) (hzA : zA s) (ad : Nat → Nat) (k : Nat → ClassId) (oa : Nat) (ko : ClassId) (mo : Nat → Nat) (km : Nat → ClassId) (hK : va_K (dC, dI) vwCl (MK km ++ (OQ ko ++ (PK k ++ (FK k ++ TK k)))) s) (P : PS) (F : Nat → Int32) (T : TS) (M : MS) (o : Nat → Int64) (H : Heap) (locs : List Loc) (ls : Array Slot) (cells slots i : Nat) (Re : Rel P F T M) (hi : i + 5 ≤ L) (hP : va_P (dC, dI) vwCl (MW mo km M ++ (OW oa ko o ++ (PW ad k P ++ (FW ad k F ++ TW ad k T)))) H) (hD : va_D (fun q : Nat => s.heap.size ≤ q) (MW mo km M ++ (OW oa ko o ++ (PW ad k P ++ (FW ad k F ++ TW ad k T))))) (hS : va_S (fun q : Nat => s.heap.size ≤ q) s.heap H locs) (hl : lv_has ls 8 [(4, .int (nI i)), (0, .ref b), (1, .ref (ad 7)), (2, .ref (mo 0)), (3, .ref oa)]) (hc1 : cells + 1 ≤ room_1.cells) (hc2 : slots + 6 ≤ room_1.slots) (kk : ∀ (P : PS) (F : Nat → Int32) (T : TS) (M : MS) (o : Nat → Int64) (H : Heap) (locs : List Loc) (ls : Array Slot), Rel P F T M → va_P (dC, dI) vwCl (MW mo km M ++ (OW oa ko o ++ (PW ad k P ++ (FW ad k F ++ TW ad k T)))) H → va_D (fun q : Nat => s.heap.size ≤ q) (MW mo km M ++ (OW oa ko o ++ (PW ad k P ++ (FW ad k F ++ TW ad k T)))) → va_S (fun q : Nat => s.heap.size ≤ q) s.heap H locs → lv_has ls 8 [(4, .int (nI i)), (0, .ref b), (1, .ref (ad 7)), (2, .ref (mo 0)), (3, .ref oa)] → W p l e room_1 s m #[Value.ref b] below meth c H locs (cells + 1) (slots + 6) (lw_Z below #[Value.ref b] s) (F0 m 934 ls [])) : W p l e room_1 s m #[Value.ref b] below meth c H locs cells slots (lw_Z below #[Value.ref b] s) (F0 m 896 ls []) := by
  obtain ⟨hx, hb, hr, hml, hown, hts, hX0, hbl, hlocks, hgv⟩ := id C0
  have hown : s.vm.findClass RL = some m.cls := hown
  have hta : ∀ w ∈ AW, w.before #[Value.ref b] s = true := fun w h => hts w (AW_in h)
  have hA : ∀ q : Nat, s.heap.size ≤ q → (fun q : Nat => s.heap.size ≤ q) q := fun _ h => h
  have hbA : ¬ (fun q : Nat => s.heap.size ≤ q) b := Nat.not_le.mpr hbl
  obtain ⟨g1, g2, g3, g4, g5, g6, g7, g8, g9, g10, g11, g12⟩ := Re.lim
  refine lv_aload_n hx hb dL_law_896 rfl (lv_at hl 2 rfl) ?_
  refine rd_call (va_runV (As := []) (rest := []) ⟨hx, hb, hml, hown, hta⟩ (c_P_steps l dC dI ad k P F T  ) (cwV 0 hta (gV m_127 m_128 m_129 m_1 m_130) rfl rfl rfl (by decide +kernel) ⟨Nat.le_of_ble_eq_true rfl, Nat.le_of_ble_eq_true rfl⟩) (rd_V nW_ok hX (hK.sub [11, 12, 13, 14, 15, 16, 17, 18, 19, 20] rfl) (hP.sub [12, 13, 14, 15, 16, 17, 18, 19, 20, 21, 22, 23] rfl) (ci := 1) (q0 := 0) rfl rfl) rfl rfl hl.1 rfl (lv_room (Nat.le_of_ble_eq_true rfl)) dL_law_897 ⟨by omega, by omega⟩) ?_
  refine W.eq (g2 := F0 m 900 ls [.int P.stp]) rfl ?_
  refine lv_aload_n hx hb dL_law_900 rfl (lv_at hl 3 rfl) ?_
  have hP2 : va_P (dC, dI) vwCl ((OW oa ko o ++ (PW ad k P ++ (FW ad k F ++ TW ad k T))) ++ MW mo km M) H := hP.sub [11, 12, 13, 14, 15, 16, 17, 18, 19, 20, 21, 22, 23, 0, 1, 2, 3, 4, 5, 6, 7, 8, 9, 10] rfl
  have hD2 : va_D (fun q : Nat => s.heap.size ≤ q) ((OW oa ko o ++ (PW ad k P ++ (FW ad k F ++ TW ad k T))) ++ MW mo km M) := hD.sub [11, 12, 13, 14, 15, 16, 17, 18, 19, 20, 21, 22, 23, 0, 1, 2, 3, 4, 5, 6, 7, 8, 9, 10] (by decide) rfl
  refine wr_call (X := OW oa ko o ++ (PW ad k P ++ (FW ad k F ++ TW ad k T))) (va_runV (As := []) (rest := [.int P.stp]) ⟨hx, hb, hml, hown, hta⟩ (c_M_steps l dC dI mo km M H.size  ) (cwV 0 hta (gV m_667 m_668 m_669 m_4 m_670) rfl rfl rfl (by decide +kernel) ⟨Nat.le_of_ble_eq_true rfl, Nat.le_of_ble_eq_true rfl⟩) (wr_V xT_ok trivial (hK.sub [0, 1, 2, 3, 4, 5, 6, 7, 8, 9] rfl) (hP.sub [0, 1, 2, 3, 4, 5, 6, 7, 8, 9, 10] rfl) (hD.sub [0, 1, 2, 3, 4, 5, 6, 7, 8, 9, 10] (by decide) rfl) (ci := 2) (q0 := 0) rfl rfl) rfl rfl hl.1 rfl (lv_room (Nat.le_of_ble_eq_true rfl)) dL_law_901 ⟨by omega, by omega⟩) hP2 hD2 hS hA rfl (fun H locs hP hD hS => ?_)
  clear hP2 hD2
  have hP : va_P (dC, dI) vwCl (MW mo km (mTh M 0) ++ (OW oa ko o ++ (PW ad k P ++ (FW ad k F ++ TW ad k T)))) H := hP.sub [13, 14, 15, 16, 17, 18, 19, 20, 21, 22, 23, 0, 1, 2, 3, 4, 5, 6, 7, 8, 9, 10, 11, 12] rfl
  have hD : va_D (fun q : Nat => s.heap.size ≤ q) (MW mo km (mTh M 0) ++ (OW oa ko o ++ (PW ad k P ++ (FW ad k F ++ TW ad k T)))) := hD.sub [13, 14, 15, 16, 17, 18, 19, 20, 21, 22, 23, 0, 1, 2, 3, 4, 5, 6, 7, 8, 9, 10, 11, 12] (by decide) rfl
  refine W.eq (g2 := F0 m 904 ls [.int M.st, .int P.stp]) rfl ?_
  refine lv_icmp_eq (tgt := 934) hx hb dL_law_904 (by decide) (fun c1 => ?_) (fun c1 => ?_)
  · refine W.widen (k := cells + 1) (n := slots + 6) (by omega) (by omega) ?_
    exact kk P F T (mTh M 0) o H locs ls (Re.th 0) hP hD hS (lv_sub hl [0, 1, 2, 3, 4] rfl)
  · exact absurd (Re.2.2.1.2.2.2.2.1.2.symm) c1

set_option maxHeartbeats 4000000 in
set_option maxRecDepth 100000 in
theorem op_count {p : Program} {e : Env} {s : State} {m : MethodId} {below : List Frame} {meth : Method} {c : Code} (l : Launch) (hlt : l.stackTraces = false) {b L : Nat} {xs : Nat → Int32} (hL : L ≤ 2561) (C0 : lw_At p s m meth c b L xs) (dC : Nat → ClassId) (dI : Nat → Nat → Nat) (hX : nW s) (hss : sW s) (hzA : zA s) (ad : Nat → Nat) (k : Nat → ClassId) (oa : Nat) (ko : ClassId) (mo : Nat → Nat) (km : Nat → ClassId) (hK : va_K (dC, dI) vwCl (MK km ++ (OQ ko ++ (PK k ++ (FK k ++ TK k)))) s) (P : PS) (F : Nat → Int32) (T : TS) (M : MS) (o : Nat → Int64) (H : Heap) (locs : List Loc) (ls : Array Slot) (cells slots i : Nat) (Re : Rel P F T M) (hi : i + 5 ≤ L) (hP : va_P (dC, dI) vwCl (MW mo km M ++ (OW oa ko o ++ (PW ad k P ++ (FW ad k F ++ TW ad k T)))) H) (hD : va_D (fun q : Nat => s.heap.size ≤ q) (MW mo km M ++ (OW oa ko o ++ (PW ad k P ++ (FW ad k F ++ TW ad k T))))) (hS : va_S (fun q : Nat => s.heap.size ≤ q) s.heap H locs) (hl : lv_has ls 8 [(4, .int (nI i)), (0, .ref b), (1, .ref (ad 7)), (2, .ref (mo 0)), (3, .ref oa)]) (hc1 : cells + 1 ≤ room_1.cells) (hc2 : slots + 6 ≤ room_1.slots) (kk : ∀ (P : PS) (F : Nat → Int32) (T : TS) (M : MS) (o : Nat → Int64) (H : Heap) (locs : List Loc) (ls : Array Slot), Rel P F T M → va_P (dC, dI) vwCl (MW mo km M ++ (OW oa ko o ++ (PW ad k P ++ (FW ad k F ++ TW ad k T)))) H → va_D (fun q : Nat => s.heap.size ≤ q) (MW mo km M ++ (OW oa ko o ++ (PW ad k P ++ (FW ad k F ++ TW ad k T)))) → va_S (fun q : Nat => s.heap.size ≤ q) s.heap H locs → lv_has ls 8 [(4, .int (nI i)), (0, .ref b), (1, .ref (ad 7)), (2, .ref (mo 0)), (3, .ref oa)] → W p l e room_1 s m #[Value.ref b] below meth c H locs (cells + 1) (slots + 6) (lw_Z below #[Value.ref b] s) (F0 m 934 ls [])) : W p l e room_1 s m #[Value.ref b] below meth c H locs cells slots (lw_Z below #[Value.ref b] s) (F0 m 909 ls []) := by
  obtain ⟨hx, hb, hr, hml, hown, hts, hX0, hbl, hlocks, hgv⟩ := id C0
  have hown : s.vm.findClass RL = some m.cls := hown
  have hta : ∀ w ∈ AW, w.before #[Value.ref b] s = true := fun w h => hts w (AW_in h)
  have hA : ∀ q : Nat, s.heap.size ≤ q → (fun q : Nat => s.heap.size ≤ q) q := fun _ h => h
  have hbA : ¬ (fun q : Nat => s.heap.size ≤ q) b := Nat.not_le.mpr hbl
  obtain ⟨g1, g2, g3, g4, g5, g6, g7, g8, g9, g10, g11, g12⟩ := Re.lim
  refine lv_aload_n hx hb dL_law_909 rfl (lv_at hl 2 rfl) ?_
  refine lv_aload_n hx hb dL_law_910 rfl (lv_at hl 1 rfl) ?_
  refine lv_iload hx hb dL_law_911 (lv_at hl 0 rfl) ?_
  refine lv_iconst (v := nI 1) hx hb dL_law_913 (by decide) ?_
  refine lv_iadd hx hb dL_law_914 ?_
  refine st_i (y := nI (i + 1)) (nI_add _ _) ?_
  refine la_sld hx hb hX0 hbl hbA hS (i := (i + 1)) (by omega) (by omega) dL_law_915 ?_
  refine rd_call (va_runV (As := [.int (xs (i + 1))]) (rest := []) ⟨hx, hb, hml, hown, hta⟩ (c_P_count l dC dI ad k P F T (xs (i + 1)) g5) (cwV 1 hta (gV m_131 m_132 m_133 m_1 m_134) rfl rfl rfl (by decide +kernel) ⟨Nat.le_of_ble_eq_true rfl, Nat.le_of_ble_eq_true rfl⟩) (rd_V nW_ok hX (hK.sub [11, 12, 13, 14, 15, 16, 17, 18, 19, 20] rfl) (hP.sub [12, 13, 14, 15, 16, 17, 18, 19, 20, 21, 22, 23] rfl) (ci := 1) (q0 := 0) rfl rfl) rfl rfl hl.1 rfl (lv_room (Nat.le_of_ble_eq_true rfl)) dL_law_916 ⟨by omega, by omega⟩) ?_
  refine W.eq (g2 := F0 m 919 ls [.int (ctP P T (xs (i + 1)))]) rfl ?_
  refine lv_aload_n hx hb dL_law_919 rfl (lv_at hl 3 rfl) ?_
  refine lv_aload_n hx hb dL_law_920 rfl (lv_at hl 1 rfl) ?_
  refine lv_iload hx hb dL_law_921 (lv_at hl 0 rfl) ?_
  refine lv_iconst (v := nI 1) hx hb dL_law_923 (by decide) ?_
  refine lv_iadd hx hb dL_law_924 ?_
  refine st_i (y := nI (i + 1)) (nI_add _ _) ?_
  refine la_sld hx hb hX0 hbl hbA hS (i := (i + 1)) (by omega) (by omega) dL_law_925 ?_
  have hP2 : va_P (dC, dI) vwCl ((OW oa ko o ++ (PW ad k P ++ (FW ad k F ++ TW ad k T))) ++ MW mo km M) H := hP.sub [11, 12, 13, 14, 15, 16, 17, 18, 19, 20, 21, 22, 23, 0, 1, 2, 3, 4, 5, 6, 7, 8, 9, 10] rfl
  have hD2 : va_D (fun q : Nat => s.heap.size ≤ q) ((OW oa ko o ++ (PW ad k P ++ (FW ad k F ++ TW ad k T))) ++ MW mo km M) := hD.sub [11, 12, 13, 14, 15, 16, 17, 18, 19, 20, 21, 22, 23, 0, 1, 2, 3, 4, 5, 6, 7, 8, 9, 10] (by decide) rfl
  refine wr_call (X := OW oa ko o ++ (PW ad k P ++ (FW ad k F ++ TW ad k T))) (va_runV (As := [.int (xs (i + 1))]) (rest := [.int (ctP P T (xs (i + 1)))]) ⟨hx, hb, hml, hown, hta⟩ (c_M_count l dC dI mo km M H.size (xs (i + 1)) (by omega)) (cwV 1 hta (gV m_671 m_672 m_673 m_4 m_674) rfl rfl rfl (by decide +kernel) ⟨Nat.le_of_ble_eq_true rfl, Nat.le_of_ble_eq_true rfl⟩) (wr_V xT_ok trivial (hK.sub [0, 1, 2, 3, 4, 5, 6, 7, 8, 9] rfl) (hP.sub [0, 1, 2, 3, 4, 5, 6, 7, 8, 9, 10] rfl) (hD.sub [0, 1, 2, 3, 4, 5, 6, 7, 8, 9, 10] (by decide) rfl) (ci := 2) (q0 := 0) rfl rfl) rfl rfl hl.1 rfl (lv_room (Nat.le_of_ble_eq_true rfl)) dL_law_926 ⟨by omega, by omega⟩) hP2 hD2 hS hA rfl (fun H locs hP hD hS => ?_)
  clear hP2 hD2
  have hP : va_P (dC, dI) vwCl (MW mo km (mTh M 0) ++ (OW oa ko o ++ (PW ad k P ++ (FW ad k F ++ TW ad k T)))) H := hP.sub [13, 14, 15, 16, 17, 18, 19, 20, 21, 22, 23, 0, 1, 2, 3, 4, 5, 6, 7, 8, 9, 10, 11, 12] rfl
  have hD : va_D (fun q : Nat => s.heap.size ≤ q) (MW mo km (mTh M 0) ++ (OW oa ko o ++ (PW ad k P ++ (FW ad k F ++ TW ad k T)))) := hD.sub [13, 14, 15, 16, 17, 18, 19, 20, 21, 22, 23, 0, 1, 2, 3, 4, 5, 6, 7, 8, 9, 10, 11, 12] (by decide) rfl
  refine W.eq (g2 := F0 m 929 ls [.int (ctR M (xs (i + 1))), .int (ctP P T (xs (i + 1)))]) rfl ?_
  refine lv_icmp_eq (tgt := 934) hx hb dL_law_929 (by decide) (fun c1 => ?_) (fun c1 => ?_)
  · refine W.widen (k := cells + 1) (n := slots + 6) (by omega) (by omega) ?_
    exact kk P F T (mTh M 0) o H locs ls (Re.th 0) hP hD hS (lv_sub hl [0, 1, 2, 3, 4] rfl)
  · exact absurd (o_count Re _) c1
