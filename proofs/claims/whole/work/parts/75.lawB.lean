set_option maxHeartbeats 4000000 in
set_option maxRecDepth 100000 in
theorem op_right {p : Program} {e : Env} {s : State} {m : MethodId} {below : List Frame} {meth : Method} {c : Code} (l : Launch) (hlt : l.stackTraces = false) {b L : Nat} {xs : Nat → Int32} (hL : L ≤ 2561) (C0 : lw_At p s m meth c b L xs) (dC : Nat → ClassId) (dI : Nat → Nat → Nat) (hX : nW s) (hss : sW s) (hzA : zA s) (ad : Nat → Nat) (k : Nat → ClassId) (oa : Nat) (ko : ClassId) (mo : Nat → Nat) (km : Nat → ClassId) (hK : va_K (dC, dI) vwCl (MK km ++ (OQ ko ++ (PK k ++ (FK k ++ TK k)))) s) (P : PS) (F : Nat → Int32) (T : TS) (M : MS) (o : Nat → Int64) (H : Heap) (locs : List Loc) (ls : Array Slot) (cells slots i : Nat) (Re : Rel P F T M) (hi : i + 5 ≤ L) (hP : va_P (dC, dI) vwCl (MW mo km M ++ (OW oa ko o ++ (PW ad k P ++ (FW ad k F ++ TW ad k T)))) H) (hD : va_D (fun q : Nat => s.heap.size ≤ q) (MW mo km M ++ (OW oa ko o ++ (PW ad k P ++ (FW ad k F ++ TW ad k T))))) (hS : va_S (fun q : Nat => s.heap.size ≤ q) s.heap H locs) (hl : lv_has ls 8 [(4, .int (nI i)), (0, .ref b), (1, .ref (ad 7)), (2, .ref (mo 0)), (3, .ref oa)]) (hc1 : cells + 1 ≤ room_1.cells) (hc2 : slots + 6 ≤ room_1.slots) (kk : ∀ (P : PS) (F : Nat → Int32) (T : TS) (M : MS) (o : Nat → Int64) (H : Heap) (locs : List Loc) (ls : Array Slot), Rel P F T M → va_P (dC, dI) vwCl (MW mo km M ++ (OW oa ko o ++ (PW ad k P ++ (FW ad k F ++ TW ad k T)))) H → va_D (fun q : Nat => s.heap.size ≤ q) (MW mo km M ++ (OW oa ko o ++ (PW ad k P ++ (FW ad k F ++ TW ad k T)))) → va_S (fun q : Nat => s.heap.size ≤ q) s.heap H locs → lv_has ls 8 [(4, .int (nI i)), (0, .ref b), (1, .ref (ad 7)), (2, .ref (mo 0)), (3, .ref oa)] → W p l e room_1 s m #[Value.ref b] below meth c H locs (cells + 1) (slots + 6) (lw_Z below #[Value.ref b] s) (F0 m 934 ls [])) : W p l e room_1 s m #[Value.ref b] below meth c H locs cells slots (lw_Z below #[Value.ref b] s) (F0 m 464 ls []) := by
  obtain ⟨hx, hb, hr, hml, hown, hts, hX0, hbl, hlocks, hgv⟩ := id C0
  have hown : s.vm.findClass RL = some m.cls := hown
  have hta : ∀ w ∈ AW, w.before #[Value.ref b] s = true := fun w h => hts w (AW_in h)
  have hA : ∀ q : Nat, s.heap.size ≤ q → (fun q : Nat => s.heap.size ≤ q) q := fun _ h => h
  have hbA : ¬ (fun q : Nat => s.heap.size ≤ q) b := Nat.not_le.mpr hbl
  obtain ⟨g1, g2, g3, g4, g5, g6, g7, g8, g9, g10, g11, g12⟩ := Re.lim
  refine lv_aload_n hx hb dL_law_464 rfl (lv_at hl 2 rfl) ?_
  refine lv_aload_n hx hb dL_law_465 rfl (lv_at hl 1 rfl) ?_
  refine lv_iload hx hb dL_law_466 (lv_at hl 0 rfl) ?_
  refine lv_iconst (v := nI 1) hx hb dL_law_468 (by decide) ?_
  refine lv_iadd hx hb dL_law_469 ?_
  refine st_i (y := nI (i + 1)) (nI_add _ _) ?_
  refine la_sld hx hb hX0 hbl hbA hS (i := (i + 1)) (by omega) (by omega) dL_law_470 ?_
  refine lv_aload_n hx hb dL_law_471 rfl (lv_at hl 1 rfl) ?_
  refine lv_iload hx hb dL_law_472 (lv_at hl 0 rfl) ?_
  refine lv_iconst (v := nI 2) hx hb dL_law_474 (by decide) ?_
  refine lv_iadd hx hb dL_law_475 ?_
  refine st_i (y := nI (i + 2)) (nI_add _ _) ?_
  refine la_sld hx hb hX0 hbl hbA hS (i := (i + 2)) (by omega) (by omega) dL_law_476 ?_
  refine lv_i2l (v := (xs (i + 2)).toInt64) hx hb dL_law_477 rfl ?_
  refine lv_bipush (v := nI 32) hx hb dL_law_478 (by decide) ?_
  refine lv_lshl (v := ((xs (i + 2)).toInt64) <<< ((nI 32).toInt64 &&& 63)) hx hb dL_law_480 rfl ?_
  refine lv_aload_n hx hb dL_law_481 rfl (lv_at hl 1 rfl) ?_
  refine lv_iload hx hb dL_law_482 (lv_at hl 0 rfl) ?_
  refine lv_iconst (v := nI 3) hx hb dL_law_484 (by decide) ?_
  refine lv_iadd hx hb dL_law_485 ?_
  refine st_i (y := nI (i + 3)) (nI_add _ _) ?_
  refine la_sld hx hb hX0 hbl hbA hS (i := (i + 3)) (by omega) (by omega) dL_law_486 ?_
  refine lv_i2l (v := (xs (i + 3)).toInt64) hx hb dL_law_487 rfl ?_
  refine lv_ldc2 (v := 4294967295) hx hb hown (hta _ m_676) dL_law_488 ?_
  refine lv_land hx hb dL_law_491 ?_
  refine lv_lor hx hb dL_law_492 ?_
  refine st_l (y := lgA xs (i + 2)) (rfl) ?_
  refine lv_aload_n hx hb dL_law_493 rfl (lv_at hl 4 rfl) ?_
  have hzH := zA_W hzA hS
  refine wr_call (X := MW mo km M) (vx_va (vx_runSX (As := [.ref (ad 7), .int (xs (i + 1)), .long (lgA xs (i + 2)), .ref oa]) (rest := []) ⟨hx, hb, hml, hown, hta⟩ (h_L_right l hlt dC dI ad k oa ko o P F T H.size (xs (i + 1)) (lgA xs (i + 2)) g3 g4 g5 g6) (vx_cwSW 4 hta (gH m_311 m_312 m_0 m_313) rfl rfl rfl (by decide +kernel) ⟨Nat.le_of_ble_eq_true rfl, Nat.le_of_ble_eq_true rfl⟩) (hd_S hX hss hzH (hK.sub [10, 11, 12, 13, 14, 15, 16, 17, 18, 19, 20] rfl) (hP.sub [11, 12, 13, 14, 15, 16, 17, 18, 19, 20, 21, 22, 23] rfl) (hD.sub [11, 12, 13, 14, 15, 16, 17, 18, 19, 20, 21, 22, 23] (by decide) rfl)) rfl rfl hl.1 rfl (lv_room (Nat.le_of_ble_eq_true rfl)) dL_law_494 ⟨by omega, by omega⟩)) hP hD hS hA rfl (fun H locs hP hD hS => ?_)
  have hP : va_P (dC, dI) vwCl (MW mo km M ++ (OW oa ko (oU (kRi P (xs (i + 1)) (lgA xs (i + 2))) o (if (sRi P T (xs (i + 1)) (lgA xs (i + 2))).1 then 1 else 0)) ++ (PW ad k ((sRi P T (xs (i + 1)) (lgA xs (i + 2))).2.1) ++ (FW ad k F ++ TW ad k ((sRi P T (xs (i + 1)) (lgA xs (i + 2))).2.2))))) H := hP
  have hD : va_D (fun q : Nat => s.heap.size ≤ q) (MW mo km M ++ (OW oa ko (oU (kRi P (xs (i + 1)) (lgA xs (i + 2))) o (if (sRi P T (xs (i + 1)) (lgA xs (i + 2))).1 then 1 else 0)) ++ (PW ad k ((sRi P T (xs (i + 1)) (lgA xs (i + 2))).2.1) ++ (FW ad k F ++ TW ad k ((sRi P T (xs (i + 1)) (lgA xs (i + 2))).2.2))))) := hD
  refine W.eq (g2 := F0 m 497 ls [.int (nI (kRi P (xs (i + 1)) (lgA xs (i + 2))))]) rfl ?_
  refine lv_istore (lv' := [(5, .int (nI (kRi P (xs (i + 1)) (lgA xs (i + 2))))), (4, .int (nI i)), (0, .ref b), (1, .ref (ad 7)), (2, .ref (mo 0)), (3, .ref oa)]) hx hb dL_law_497 hl (by decide) rfl (fun ls hl => ?_)
  refine lv_aload_n hx hb dL_law_499 rfl (lv_at hl 4 rfl) ?_
  refine lv_aload_n hx hb dL_law_500 rfl (lv_at hl 2 rfl) ?_
  refine lv_iload hx hb dL_law_501 (lv_at hl 1 rfl) ?_
  refine lv_iconst (v := nI 1) hx hb dL_law_503 (by decide) ?_
  refine lv_iadd hx hb dL_law_504 ?_
  refine st_i (y := nI (i + 1)) (nI_add _ _) ?_
  refine la_sld hx hb hX0 hbl hbA hS (i := (i + 1)) (by omega) (by omega) dL_law_505 ?_
  refine lv_aload_n hx hb dL_law_506 rfl (lv_at hl 2 rfl) ?_
  refine lv_iload hx hb dL_law_507 (lv_at hl 1 rfl) ?_
  refine lv_iconst (v := nI 2) hx hb dL_law_509 (by decide) ?_
  refine lv_iadd hx hb dL_law_510 ?_
  refine st_i (y := nI (i + 2)) (nI_add _ _) ?_
  refine la_sld hx hb hX0 hbl hbA hS (i := (i + 2)) (by omega) (by omega) dL_law_511 ?_
  refine lv_i2l (v := (xs (i + 2)).toInt64) hx hb dL_law_512 rfl ?_
  refine lv_bipush (v := nI 32) hx hb dL_law_513 (by decide) ?_
  refine lv_lshl (v := ((xs (i + 2)).toInt64) <<< ((nI 32).toInt64 &&& 63)) hx hb dL_law_515 rfl ?_
  refine lv_aload_n hx hb dL_law_516 rfl (lv_at hl 2 rfl) ?_
  refine lv_iload hx hb dL_law_517 (lv_at hl 1 rfl) ?_
  refine lv_iconst (v := nI 3) hx hb dL_law_519 (by decide) ?_
  refine lv_iadd hx hb dL_law_520 ?_
  refine st_i (y := nI (i + 3)) (nI_add _ _) ?_
  refine la_sld hx hb hX0 hbl hbA hS (i := (i + 3)) (by omega) (by omega) dL_law_521 ?_
  refine lv_i2l (v := (xs (i + 3)).toInt64) hx hb dL_law_522 rfl ?_
  refine lv_ldc2 (v := 4294967295) hx hb hown (hta _ m_676) dL_law_523 ?_
  refine lv_land hx hb dL_law_526 ?_
  refine lv_lor hx hb dL_law_527 ?_
  refine st_l (y := lgA xs (i + 2)) (rfl) ?_
  have hP2 : va_P (dC, dI) vwCl ((OW oa ko (oU (kRi P (xs (i + 1)) (lgA xs (i + 2))) o (if (sRi P T (xs (i + 1)) (lgA xs (i + 2))).1 then 1 else 0)) ++ (PW ad k ((sRi P T (xs (i + 1)) (lgA xs (i + 2))).2.1) ++ (FW ad k F ++ TW ad k ((sRi P T (xs (i + 1)) (lgA xs (i + 2))).2.2)))) ++ MW mo km M) H := hP.sub [11, 12, 13, 14, 15, 16, 17, 18, 19, 20, 21, 22, 23, 0, 1, 2, 3, 4, 5, 6, 7, 8, 9, 10] rfl
  have hD2 : va_D (fun q : Nat => s.heap.size ≤ q) ((OW oa ko (oU (kRi P (xs (i + 1)) (lgA xs (i + 2))) o (if (sRi P T (xs (i + 1)) (lgA xs (i + 2))).1 then 1 else 0)) ++ (PW ad k ((sRi P T (xs (i + 1)) (lgA xs (i + 2))).2.1) ++ (FW ad k F ++ TW ad k ((sRi P T (xs (i + 1)) (lgA xs (i + 2))).2.2)))) ++ MW mo km M) := hD.sub [11, 12, 13, 14, 15, 16, 17, 18, 19, 20, 21, 22, 23, 0, 1, 2, 3, 4, 5, 6, 7, 8, 9, 10] (by decide) rfl
  refine wr_call (X := OW oa ko (oU (kRi P (xs (i + 1)) (lgA xs (i + 2))) o (if (sRi P T (xs (i + 1)) (lgA xs (i + 2))).1 then 1 else 0)) ++ (PW ad k ((sRi P T (xs (i + 1)) (lgA xs (i + 2))).2.1) ++ (FW ad k F ++ TW ad k ((sRi P T (xs (i + 1)) (lgA xs (i + 2))).2.2)))) (va_runV (As := [.int (xs (i + 1)), .long (lgA xs (i + 2))]) (rest := []) ⟨hx, hb, hml, hown, hta⟩ (c_M_right l dC dI mo km M H.size (xs (i + 1)) (lgA xs (i + 2)) g8 g9 (by omega) g7) (cwV 2 hta (gV m_582 m_583 m_584 m_4 m_585) rfl rfl rfl (by decide +kernel) ⟨Nat.le_of_ble_eq_true rfl, Nat.le_of_ble_eq_true rfl⟩) (wr_V xT_ok trivial (hK.sub [0, 1, 2, 3, 4, 5, 6, 7, 8, 9] rfl) (hP.sub [0, 1, 2, 3, 4, 5, 6, 7, 8, 9, 10] rfl) (hD.sub [0, 1, 2, 3, 4, 5, 6, 7, 8, 9, 10] (by decide) rfl) (ci := 2) (q0 := 0) rfl rfl) rfl rfl hl.1 rfl (lv_room (Nat.le_of_ble_eq_true rfl)) dL_law_528 ⟨by omega, by omega⟩) hP2 hD2 hS hA rfl (fun H locs hP hD hS => ?_)
  clear hP2 hD2
  obtain ⟨e1, e2, e3⟩ := o_right Re (xs (i + 1)) (lgA xs (i + 2))
  have hP : va_P (dC, dI) vwCl (MW mo km ((riM M (xs (i + 1)) (lgA xs (i + 2))).2) ++ (OW oa ko (oU (kRi P (xs (i + 1)) (lgA xs (i + 2))) o (if (sRi P T (xs (i + 1)) (lgA xs (i + 2))).1 then 1 else 0)) ++ (PW ad k ((sRi P T (xs (i + 1)) (lgA xs (i + 2))).2.1) ++ (FW ad k F ++ TW ad k ((sRi P T (xs (i + 1)) (lgA xs (i + 2))).2.2))))) H := hP.sub [13, 14, 15, 16, 17, 18, 19, 20, 21, 22, 23, 0, 1, 2, 3, 4, 5, 6, 7, 8, 9, 10, 11, 12] rfl
  have hD : va_D (fun q : Nat => s.heap.size ≤ q) (MW mo km ((riM M (xs (i + 1)) (lgA xs (i + 2))).2) ++ (OW oa ko (oU (kRi P (xs (i + 1)) (lgA xs (i + 2))) o (if (sRi P T (xs (i + 1)) (lgA xs (i + 2))).1 then 1 else 0)) ++ (PW ad k ((sRi P T (xs (i + 1)) (lgA xs (i + 2))).2.1) ++ (FW ad k F ++ TW ad k ((sRi P T (xs (i + 1)) (lgA xs (i + 2))).2.2))))) := hD.sub [13, 14, 15, 16, 17, 18, 19, 20, 21, 22, 23, 0, 1, 2, 3, 4, 5, 6, 7, 8, 9, 10, 11, 12] (by decide) rfl
  refine W.eq (g2 := F0 m 531 ls [.int (bI (riM M (xs (i + 1)) (lgA xs (i + 2))).1)]) rfl ?_
  refine lv_istore (lv' := [(6, .int (bI (riM M (xs (i + 1)) (lgA xs (i + 2))).1)), (5, .int (nI (kRi P (xs (i + 1)) (lgA xs (i + 2))))), (4, .int (nI i)), (0, .ref b), (1, .ref (ad 7)), (2, .ref (mo 0)), (3, .ref oa)]) hx hb dL_law_531 hl (by decide) rfl (fun ls hl => ?_)
  refine lv_aload_n hx hb dL_law_533 rfl (lv_at hl 5 rfl) ?_
  refine rd_call (va_runV (As := []) (rest := []) ⟨hx, hb, hml, hown, hta⟩ (c_M_thrown l dC dI mo km ((riM M (xs (i + 1)) (lgA xs (i + 2))).2)) (cwV 0 hta (gV m_550 m_551 m_552 m_4 m_553) rfl rfl rfl (by decide +kernel) ⟨Nat.le_of_ble_eq_true rfl, Nat.le_of_ble_eq_true rfl⟩) (rd_V xT_ok trivial (hK.sub [0, 1, 2, 3, 4, 5, 6, 7, 8, 9] rfl) (hP.sub [0, 1, 2, 3, 4, 5, 6, 7, 8, 9, 10] rfl) (ci := 2) (q0 := 0) rfl rfl) rfl rfl hl.1 rfl (lv_room (Nat.le_of_ble_eq_true rfl)) dL_law_534 ⟨by omega, by omega⟩) ?_
  refine W.eq (g2 := F0 m 537 ls [.int (nI ((riM M (xs (i + 1)) (lgA xs (i + 2))).2).thr)]) rfl ?_
  refine st_i (y := nI (kRi P (xs (i + 1)) (lgA xs (i + 2)))) (congrArg nI e1) ?_
  refine lv_iload hx hb dL_law_537 (lv_at hl 1 rfl) ?_
  refine lv_icmp_eq (tgt := 544) hx hb dL_law_539 (by decide) (fun c1 => ?_) (fun c1 => ?_)
  · refine lv_iload hx hb dL_law_544 (lv_at hl 1 rfl) ?_
    refine lv_if_ne (tgt := 568) hx hb dL_law_546 (by decide) (fun c2 => ?_) (fun c2 => ?_)
    · refine lv_goto (tgt := 934) hx hb dL_law_568 (by decide) ?_
      exact kk ((sRi P T (xs (i + 1)) (lgA xs (i + 2))).2.1) F ((sRi P T (xs (i + 1)) (lgA xs (i + 2))).2.2) ((riM M (xs (i + 1)) (lgA xs (i + 2))).2) (oU (kRi P (xs (i + 1)) (lgA xs (i + 2))) o (if (sRi P T (xs (i + 1)) (lgA xs (i + 2))).1 then 1 else 0)) H locs ls e2 hP hD hS (lv_sub hl [2, 3, 4, 5, 6] rfl)
    · have hk0 := k0_of (by unfold kRi; (repeat' split) <;> omega) c2
      have e4 := e3 hk0
      refine lv_aload_n hx hb dL_law_549 rfl (lv_at hl 6 rfl) ?_
      refine lv_iconst (v := nI 0) hx hb dL_law_550 (by decide) ?_
      refine na_lald hx hb hK hP 11 10 rfl rfl (i := 0) (by decide) (by decide) dL_law_551 ?_
      refine st_l (y := if (sRi P T (xs (i + 1)) (lgA xs (i + 2))).1 then 1 else 0) (oU_at hk0) ?_
      refine lv_iload hx hb dL_law_552 (lv_at hl 0 rfl) ?_
      refine st_i (y := bI ((sRi P T (xs (i + 1)) (lgA xs (i + 2))).1)) (congrArg bI e4) ?_
      cases hb9 : ((sRi P T (xs (i + 1)) (lgA xs (i + 2))).1)
      · refine W.eq (g2 := F0 m 554 ls [.int 0, .long 0]) (by first | rfl | (rw [hb9]; rfl)) ?_
        refine lv_if_eq (tgt := 561) hx hb dL_law_554 (by decide) (fun c_1 => ?_) (fun c_1 => ?_)
        · refine lv_lconst (v := 0) hx hb dL_law_561 (by decide) ?_
          refine ll_eq (tgt := 568) hx hb dL_law_562 dL_law_563 (by decide) (fun c3 => ?_) (fun c3 => ?_)
          · refine lv_goto (tgt := 934) hx hb dL_law_568 (by decide) ?_
            exact kk ((sRi P T (xs (i + 1)) (lgA xs (i + 2))).2.1) F ((sRi P T (xs (i + 1)) (lgA xs (i + 2))).2.2) ((riM M (xs (i + 1)) (lgA xs (i + 2))).2) (oU (kRi P (xs (i + 1)) (lgA xs (i + 2))) o (if (sRi P T (xs (i + 1)) (lgA xs (i + 2))).1 then 1 else 0)) H locs ls e2 hP hD hS (lv_sub hl [2, 3, 4, 5, 6] rfl)
          · exact absurd c3 (by decide)
        · exact absurd c_1 (by decide)
      · refine W.eq (g2 := F0 m 554 ls [.int 1, .long 1]) (by first | rfl | (rw [hb9]; rfl)) ?_
        refine lv_if_eq (tgt := 561) hx hb dL_law_554 (by decide) (fun c_2 => ?_) (fun c_2 => ?_)
        · exact absurd c_2 (by decide)
        · refine lv_lconst (v := 1) hx hb dL_law_557 (by decide) ?_
          refine lv_goto (tgt := 562) hx hb dL_law_558 (by decide) ?_
          refine ll_eq (tgt := 568) hx hb dL_law_562 dL_law_563 (by decide) (fun c3 => ?_) (fun c3 => ?_)
          · refine lv_goto (tgt := 934) hx hb dL_law_568 (by decide) ?_
            exact kk ((sRi P T (xs (i + 1)) (lgA xs (i + 2))).2.1) F ((sRi P T (xs (i + 1)) (lgA xs (i + 2))).2.2) ((riM M (xs (i + 1)) (lgA xs (i + 2))).2) (oU (kRi P (xs (i + 1)) (lgA xs (i + 2))) o (if (sRi P T (xs (i + 1)) (lgA xs (i + 2))).1 then 1 else 0)) H locs ls e2 hP hD hS (lv_sub hl [2, 3, 4, 5, 6] rfl)
          · exact absurd c3 (by decide)
  · exact absurd rfl c1

set_option maxHeartbeats 4000000 in
set_option maxRecDepth 100000 in
theorem op_run {p : Program} {e : Env} {s : State} {m : MethodId} {below : List Frame} {meth : Method} {c : Code} (l : Launch) (hlt : l.stackTraces = false) {b L : Nat} {xs : Nat → Int32} (hL : L ≤ 2561) (C0 : lw_At p s m meth c b L xs) (dC : Nat → ClassId) (dI : Nat → Nat → Nat) (hX : nW s) (hss : sW s) (hzA : zA s) (ad : Nat → Nat) (k : Nat → ClassId) (oa : Nat) (ko : ClassId) (mo : Nat → Nat) (km : Nat → ClassId) (hK : va_K (dC, dI) vwCl (MK km ++ (OQ ko ++ (PK k ++ (FK k ++ TK k)))) s) (P : PS) (F : Nat → Int32) (T : TS) (M : MS) (o : Nat → Int64) (H : Heap) (locs : List Loc) (ls : Array Slot) (cells slots i : Nat) (Re : Rel P F T M) (hi : i + 5 ≤ L) (hP : va_P (dC, dI) vwCl (MW mo km M ++ (OW oa ko o ++ (PW ad k P ++ (FW ad k F ++ TW ad k T)))) H) (hD : va_D (fun q : Nat => s.heap.size ≤ q) (MW mo km M ++ (OW oa ko o ++ (PW ad k P ++ (FW ad k F ++ TW ad k T))))) (hS : va_S (fun q : Nat => s.heap.size ≤ q) s.heap H locs) (hl : lv_has ls 8 [(4, .int (nI i)), (0, .ref b), (1, .ref (ad 7)), (2, .ref (mo 0)), (3, .ref oa)]) (hc1 : cells + 1 ≤ room_1.cells) (hc2 : slots + 6 ≤ room_1.slots) (kk : ∀ (P : PS) (F : Nat → Int32) (T : TS) (M : MS) (o : Nat → Int64) (H : Heap) (locs : List Loc) (ls : Array Slot), Rel P F T M → va_P (dC, dI) vwCl (MW mo km M ++ (OW oa ko o ++ (PW ad k P ++ (FW ad k F ++ TW ad k T)))) H → va_D (fun q : Nat => s.heap.size ≤ q) (MW mo km M ++ (OW oa ko o ++ (PW ad k P ++ (FW ad k F ++ TW ad k T)))) → va_S (fun q : Nat => s.heap.size ≤ q) s.heap H locs → lv_has ls 8 [(4, .int (nI i)), (0, .ref b), (1, .ref (ad 7)), (2, .ref (mo 0)), (3, .ref oa)] → W p l e room_1 s m #[Value.ref b] below meth c H locs (cells + 1) (slots + 6) (lw_Z below #[Value.ref b] s) (F0 m 934 ls [])) : W p l e room_1 s m #[Value.ref b] below meth c H locs cells slots (lw_Z below #[Value.ref b] s) (F0 m 571 ls []) := by
  obtain ⟨hx, hb, hr, hml, hown, hts, hX0, hbl, hlocks, hgv⟩ := id C0
  have hown : s.vm.findClass RL = some m.cls := hown
  have hta : ∀ w ∈ AW, w.before #[Value.ref b] s = true := fun w h => hts w (AW_in h)
  have hA : ∀ q : Nat, s.heap.size ≤ q → (fun q : Nat => s.heap.size ≤ q) q := fun _ h => h
  have hbA : ¬ (fun q : Nat => s.heap.size ≤ q) b := Nat.not_le.mpr hbl
  obtain ⟨g1, g2, g3, g4, g5, g6, g7, g8, g9, g10, g11, g12⟩ := Re.lim
  refine lv_aload_n hx hb dL_law_571 rfl (lv_at hl 2 rfl) ?_
  refine lv_aload_n hx hb dL_law_572 rfl (lv_at hl 1 rfl) ?_
  refine lv_iload hx hb dL_law_573 (lv_at hl 0 rfl) ?_
  refine lv_iconst (v := nI 1) hx hb dL_law_575 (by decide) ?_
  refine lv_iadd hx hb dL_law_576 ?_
  refine st_i (y := nI (i + 1)) (nI_add _ _) ?_
  refine la_sld hx hb hX0 hbl hbA hS (i := (i + 1)) (by omega) (by omega) dL_law_577 ?_
  refine lv_aload_n hx hb dL_law_578 rfl (lv_at hl 4 rfl) ?_
  have hzH := zA_W hzA hS
  refine wr_call (X := MW mo km M) (vx_va (vx_runSX (As := [.ref (ad 7), .int (xs (i + 1)), .ref oa]) (rest := []) ⟨hx, hb, hml, hown, hta⟩ (h_L_run l hlt dC dI ad k oa ko o P F T H.size (xs (i + 1)) g3 g4 g5 g6) (vx_cwSW 3 hta (gH m_355 m_356 m_0 m_357) rfl rfl rfl (by decide +kernel) ⟨Nat.le_of_ble_eq_true rfl, Nat.le_of_ble_eq_true rfl⟩) (hd_S hX hss hzH (hK.sub [10, 11, 12, 13, 14, 15, 16, 17, 18, 19, 20] rfl) (hP.sub [11, 12, 13, 14, 15, 16, 17, 18, 19, 20, 21, 22, 23] rfl) (hD.sub [11, 12, 13, 14, 15, 16, 17, 18, 19, 20, 21, 22, 23] (by decide) rfl)) rfl rfl hl.1 rfl (lv_room (Nat.le_of_ble_eq_true rfl)) dL_law_579 ⟨by omega, by omega⟩)) hP hD hS hA rfl (fun H locs hP hD hS => ?_)
  have hP : va_P (dC, dI) vwCl (MW mo km M ++ (OW oa ko (oU (kRu (xs (i + 1))) o ((sRu P F T (xs (i + 1))).1.toInt64)) ++ (PW ad k ((sRu P F T (xs (i + 1))).2.1) ++ (FW ad k F ++ TW ad k ((sRu P F T (xs (i + 1))).2.2))))) H := hP
  have hD : va_D (fun q : Nat => s.heap.size ≤ q) (MW mo km M ++ (OW oa ko (oU (kRu (xs (i + 1))) o ((sRu P F T (xs (i + 1))).1.toInt64)) ++ (PW ad k ((sRu P F T (xs (i + 1))).2.1) ++ (FW ad k F ++ TW ad k ((sRu P F T (xs (i + 1))).2.2))))) := hD
  refine W.eq (g2 := F0 m 582 ls [.int (nI (kRu (xs (i + 1))))]) rfl ?_
  refine lv_istore (lv' := [(5, .int (nI (kRu (xs (i + 1))))), (4, .int (nI i)), (0, .ref b), (1, .ref (ad 7)), (2, .ref (mo 0)), (3, .ref oa)]) hx hb dL_law_582 hl (by decide) rfl (fun ls hl => ?_)
  refine lv_aload_n hx hb dL_law_584 rfl (lv_at hl 4 rfl) ?_
  refine lv_aload_n hx hb dL_law_585 rfl (lv_at hl 2 rfl) ?_
  refine lv_iload hx hb dL_law_586 (lv_at hl 1 rfl) ?_
  refine lv_iconst (v := nI 1) hx hb dL_law_588 (by decide) ?_
  refine lv_iadd hx hb dL_law_589 ?_
  refine st_i (y := nI (i + 1)) (nI_add _ _) ?_
  refine la_sld hx hb hX0 hbl hbA hS (i := (i + 1)) (by omega) (by omega) dL_law_590 ?_
  have hP2 : va_P (dC, dI) vwCl ((OW oa ko (oU (kRu (xs (i + 1))) o ((sRu P F T (xs (i + 1))).1.toInt64)) ++ (PW ad k ((sRu P F T (xs (i + 1))).2.1) ++ (FW ad k F ++ TW ad k ((sRu P F T (xs (i + 1))).2.2)))) ++ MW mo km M) H := hP.sub [11, 12, 13, 14, 15, 16, 17, 18, 19, 20, 21, 22, 23, 0, 1, 2, 3, 4, 5, 6, 7, 8, 9, 10] rfl
  have hD2 : va_D (fun q : Nat => s.heap.size ≤ q) ((OW oa ko (oU (kRu (xs (i + 1))) o ((sRu P F T (xs (i + 1))).1.toInt64)) ++ (PW ad k ((sRu P F T (xs (i + 1))).2.1) ++ (FW ad k F ++ TW ad k ((sRu P F T (xs (i + 1))).2.2)))) ++ MW mo km M) := hD.sub [11, 12, 13, 14, 15, 16, 17, 18, 19, 20, 21, 22, 23, 0, 1, 2, 3, 4, 5, 6, 7, 8, 9, 10] (by decide) rfl
  refine wr_call (X := OW oa ko (oU (kRu (xs (i + 1))) o ((sRu P F T (xs (i + 1))).1.toInt64)) ++ (PW ad k ((sRu P F T (xs (i + 1))).2.1) ++ (FW ad k F ++ TW ad k ((sRu P F T (xs (i + 1))).2.2)))) (va_runV (As := [.int (xs (i + 1))]) (rest := []) ⟨hx, hb, hml, hown, hta⟩ (c_M_run l dC dI mo km M H.size (xs (i + 1)) (by omega) (ruJ M) ruK (ruJ_f (by omega)) (ruJ_0 Re) (ruJ_1 (by omega)) (ruJ_2 (by omega) Re.2.2.1.2.2.1.2.2.2) (fun M2 h => ⟨h.2.choose, h.2.choose_spec.choose_spec.1⟩) ruK_f (fun M2 le q h h1 h2 h3 => k_step h.choose_spec h1 h2 h3)) (cwV 1 hta (gV m_599 m_600 m_601 m_4 m_602) rfl rfl rfl (by decide +kernel) ⟨Nat.le_of_ble_eq_true rfl, Nat.le_of_ble_eq_true rfl⟩) (wr_V xT_ok trivial (hK.sub [0, 1, 2, 3, 4, 5, 6, 7, 8, 9] rfl) (hP.sub [0, 1, 2, 3, 4, 5, 6, 7, 8, 9, 10] rfl) (hD.sub [0, 1, 2, 3, 4, 5, 6, 7, 8, 9, 10] (by decide) rfl) (ci := 2) (q0 := 0) rfl rfl) rfl rfl hl.1 rfl (lv_room (Nat.le_of_ble_eq_true rfl)) dL_law_591 ⟨by omega, by omega⟩) hP2 hD2 hS hA rfl (fun H locs hP hD hS => ?_)
  clear hP2 hD2
  obtain ⟨e1, e2, e3⟩ := o_run Re (xs (i + 1))
  have hP : va_P (dC, dI) vwCl (MW mo km ((ruM M (xs (i + 1))).2) ++ (OW oa ko (oU (kRu (xs (i + 1))) o ((sRu P F T (xs (i + 1))).1.toInt64)) ++ (PW ad k ((sRu P F T (xs (i + 1))).2.1) ++ (FW ad k F ++ TW ad k ((sRu P F T (xs (i + 1))).2.2))))) H := hP.sub [13, 14, 15, 16, 17, 18, 19, 20, 21, 22, 23, 0, 1, 2, 3, 4, 5, 6, 7, 8, 9, 10, 11, 12] rfl
  have hD : va_D (fun q : Nat => s.heap.size ≤ q) (MW mo km ((ruM M (xs (i + 1))).2) ++ (OW oa ko (oU (kRu (xs (i + 1))) o ((sRu P F T (xs (i + 1))).1.toInt64)) ++ (PW ad k ((sRu P F T (xs (i + 1))).2.1) ++ (FW ad k F ++ TW ad k ((sRu P F T (xs (i + 1))).2.2))))) := hD.sub [13, 14, 15, 16, 17, 18, 19, 20, 21, 22, 23, 0, 1, 2, 3, 4, 5, 6, 7, 8, 9, 10, 11, 12] (by decide) rfl
  refine W.eq (g2 := F0 m 594 ls [.int ((ruM M (xs (i + 1))).1)]) rfl ?_
  refine lv_istore (lv' := [(6, .int ((ruM M (xs (i + 1))).1)), (5, .int (nI (kRu (xs (i + 1))))), (4, .int (nI i)), (0, .ref b), (1, .ref (ad 7)), (2, .ref (mo 0)), (3, .ref oa)]) hx hb dL_law_594 hl (by decide) rfl (fun ls hl => ?_)
  refine lv_aload_n hx hb dL_law_596 rfl (lv_at hl 5 rfl) ?_
  refine rd_call (va_runV (As := []) (rest := []) ⟨hx, hb, hml, hown, hta⟩ (c_M_thrown l dC dI mo km ((ruM M (xs (i + 1))).2)) (cwV 0 hta (gV m_550 m_551 m_552 m_4 m_553) rfl rfl rfl (by decide +kernel) ⟨Nat.le_of_ble_eq_true rfl, Nat.le_of_ble_eq_true rfl⟩) (rd_V xT_ok trivial (hK.sub [0, 1, 2, 3, 4, 5, 6, 7, 8, 9] rfl) (hP.sub [0, 1, 2, 3, 4, 5, 6, 7, 8, 9, 10] rfl) (ci := 2) (q0 := 0) rfl rfl) rfl rfl hl.1 rfl (lv_room (Nat.le_of_ble_eq_true rfl)) dL_law_597 ⟨by omega, by omega⟩) ?_
  refine W.eq (g2 := F0 m 600 ls [.int (nI ((ruM M (xs (i + 1))).2).thr)]) rfl ?_
  refine st_i (y := nI (kRu (xs (i + 1)))) (congrArg nI e1) ?_
  refine lv_iload hx hb dL_law_600 (lv_at hl 1 rfl) ?_
  refine lv_icmp_eq (tgt := 607) hx hb dL_law_602 (by decide) (fun c1 => ?_) (fun c1 => ?_)
  · refine lv_iload hx hb dL_law_607 (lv_at hl 1 rfl) ?_
    refine lv_if_ne (tgt := 624) hx hb dL_law_609 (by decide) (fun c2 => ?_) (fun c2 => ?_)
    · refine lv_goto (tgt := 934) hx hb dL_law_624 (by decide) ?_
      exact kk ((sRu P F T (xs (i + 1))).2.1) F ((sRu P F T (xs (i + 1))).2.2) ((ruM M (xs (i + 1))).2) (oU (kRu (xs (i + 1))) o ((sRu P F T (xs (i + 1))).1.toInt64)) H locs ls e2 hP hD hS (lv_sub hl [2, 3, 4, 5, 6] rfl)
    · have hk0 := k0_of (by unfold kRu; (repeat' split) <;> omega) c2
      have e4 := e3 hk0
      refine lv_aload_n hx hb dL_law_612 rfl (lv_at hl 6 rfl) ?_
      refine lv_iconst (v := nI 0) hx hb dL_law_613 (by decide) ?_
      refine na_lald hx hb hK hP 11 10 rfl rfl (i := 0) (by decide) (by decide) dL_law_614 ?_
      refine st_l (y := (sRu P F T (xs (i + 1))).1.toInt64) (oU_at hk0) ?_
      refine lv_iload hx hb dL_law_615 (lv_at hl 0 rfl) ?_
      refine lv_i2l (v := ((ruM M (xs (i + 1))).1).toInt64) hx hb dL_law_617 rfl ?_
      refine st_l (y := (sRu P F T (xs (i + 1))).1.toInt64) (congrArg Int32.toInt64 e4) ?_
      refine ll_eq (tgt := 624) hx hb dL_law_618 dL_law_619 (by decide) (fun c3 => ?_) (fun c3 => ?_)
      · refine lv_goto (tgt := 934) hx hb dL_law_624 (by decide) ?_
        exact kk ((sRu P F T (xs (i + 1))).2.1) F ((sRu P F T (xs (i + 1))).2.2) ((ruM M (xs (i + 1))).2) (oU (kRu (xs (i + 1))) o ((sRu P F T (xs (i + 1))).1.toInt64)) H locs ls e2 hP hD hS (lv_sub hl [2, 3, 4, 5, 6] rfl)
      · exact absurd rfl c3
  · exact absurd rfl c1

set_option maxHeartbeats 4000000 in
set_option maxRecDepth 100000 in
theorem op_value {p : Program} {e : Env} {s : State} {m : MethodId} {below : List Frame} {meth : Method} {c : Code} (l : Launch) (hlt : l.stackTraces = false) {b L : Nat} {xs : Nat → Int32} (hL : L ≤ 2561) (C0 : lw_At p s m meth c b L xs) (dC : Nat → ClassId) (dI : Nat → Nat → Nat) (hX : nW s) (hss : sW s) (hzA : zA s) (ad : Nat → Nat) (k : Nat → ClassId) (oa : Nat) (ko : ClassId) (mo : Nat → Nat) (km : Nat → ClassId) (hK : va_K (dC, dI) vwCl (MK km ++ (OQ ko ++ (PK k ++ (FK k ++ TK k)))) s) (P : PS) (F : Nat → Int32) (T : TS) (M : MS) (o : Nat → Int64) (H : Heap) (locs : List Loc) (ls : Array Slot) (cells slots i : Nat) (Re : Rel P F T M) (hi : i + 5 ≤ L) (hP : va_P (dC, dI) vwCl (MW mo km M ++ (OW oa ko o ++ (PW ad k P ++ (FW ad k F ++ TW ad k T)))) H) (hD : va_D (fun q : Nat => s.heap.size ≤ q) (MW mo km M ++ (OW oa ko o ++ (PW ad k P ++ (FW ad k F ++ TW ad k T))))) (hS : va_S (fun q : Nat => s.heap.size ≤ q) s.heap H locs) (hl : lv_has ls 8 [(4, .int (nI i)), (0, .ref b), (1, .ref (ad 7)), (2, .ref (mo 0)), (3, .ref oa)]) (hc1 : cells + 1 ≤ room_1.cells) (hc2 : slots + 6 ≤ room_1.slots) (kk : ∀ (P : PS) (F : Nat → Int32) (T : TS) (M : MS) (o : Nat → Int64) (H : Heap) (locs : List Loc) (ls : Array Slot), Rel P F T M → va_P (dC, dI) vwCl (MW mo km M ++ (OW oa ko o ++ (PW ad k P ++ (FW ad k F ++ TW ad k T)))) H → va_D (fun q : Nat => s.heap.size ≤ q) (MW mo km M ++ (OW oa ko o ++ (PW ad k P ++ (FW ad k F ++ TW ad k T)))) → va_S (fun q : Nat => s.heap.size ≤ q) s.heap H locs → lv_has ls 8 [(4, .int (nI i)), (0, .ref b), (1, .ref (ad 7)), (2, .ref (mo 0)), (3, .ref oa)] → W p l e room_1 s m #[Value.ref b] below meth c H locs (cells + 1) (slots + 6) (lw_Z below #[Value.ref b] s) (F0 m 934 ls [])) : W p l e room_1 s m #[Value.ref b] below meth c H locs cells slots (lw_Z below #[Value.ref b] s) (F0 m 627 ls []) := by
  obtain ⟨hx, hb, hr, hml, hown, hts, hX0, hbl, hlocks, hgv⟩ := id C0
  have hown : s.vm.findClass RL = some m.cls := hown
  have hta : ∀ w ∈ AW, w.before #[Value.ref b] s = true := fun w h => hts w (AW_in h)
  have hA : ∀ q : Nat, s.heap.size ≤ q → (fun q : Nat => s.heap.size ≤ q) q := fun _ h => h
  have hbA : ¬ (fun q : Nat => s.heap.size ≤ q) b := Nat.not_le.mpr hbl
  obtain ⟨g1, g2, g3, g4, g5, g6, g7, g8, g9, g10, g11, g12⟩ := Re.lim
  refine lv_aload_n hx hb dL_law_627 rfl (lv_at hl 2 rfl) ?_
  refine lv_aload_n hx hb dL_law_628 rfl (lv_at hl 1 rfl) ?_
  refine lv_iload hx hb dL_law_629 (lv_at hl 0 rfl) ?_
  refine lv_iconst (v := nI 1) hx hb dL_law_631 (by decide) ?_
  refine lv_iadd hx hb dL_law_632 ?_
  refine st_i (y := nI (i + 1)) (nI_add _ _) ?_
  refine la_sld hx hb hX0 hbl hbA hS (i := (i + 1)) (by omega) (by omega) dL_law_633 ?_
  refine lv_aload_n hx hb dL_law_634 rfl (lv_at hl 4 rfl) ?_
  have hzH := zA_W hzA hS
  refine wr_call (X := MW mo km M) (vx_va (vx_runSX (As := [.ref (ad 7), .int (xs (i + 1)), .ref oa]) (rest := []) ⟨hx, hb, hml, hown, hta⟩ (h_L_value l hlt dC dI ad k oa ko o P F T H.size (xs (i + 1)) g3 g4 g5 g6) (vx_cwSW 3 hta (gH m_430 m_431 m_0 m_432) rfl rfl rfl (by decide +kernel) ⟨Nat.le_of_ble_eq_true rfl, Nat.le_of_ble_eq_true rfl⟩) (hd_S hX hss hzH (hK.sub [10, 11, 12, 13, 14, 15, 16, 17, 18, 19, 20] rfl) (hP.sub [11, 12, 13, 14, 15, 16, 17, 18, 19, 20, 21, 22, 23] rfl) (hD.sub [11, 12, 13, 14, 15, 16, 17, 18, 19, 20, 21, 22, 23] (by decide) rfl)) rfl rfl hl.1 rfl (lv_room (Nat.le_of_ble_eq_true rfl)) dL_law_635 ⟨by omega, by omega⟩)) hP hD hS hA rfl (fun H locs hP hD hS => ?_)
  have hP : va_P (dC, dI) vwCl (MW mo km M ++ (OW oa ko (oU (kVa (xs (i + 1))) o (ltM (T.C (0 * 13 + 0)) T.d (xs (i + 1)))) ++ (PW ad k P ++ (FW ad k F ++ TW ad k T)))) H := hP
  have hD : va_D (fun q : Nat => s.heap.size ≤ q) (MW mo km M ++ (OW oa ko (oU (kVa (xs (i + 1))) o (ltM (T.C (0 * 13 + 0)) T.d (xs (i + 1)))) ++ (PW ad k P ++ (FW ad k F ++ TW ad k T)))) := hD
  refine W.eq (g2 := F0 m 638 ls [.int (nI (kVa (xs (i + 1))))]) rfl ?_
  refine lv_istore (lv' := [(5, .int (nI (kVa (xs (i + 1))))), (4, .int (nI i)), (0, .ref b), (1, .ref (ad 7)), (2, .ref (mo 0)), (3, .ref oa)]) hx hb dL_law_638 hl (by decide) rfl (fun ls hl => ?_)
  refine lv_aload_n hx hb dL_law_640 rfl (lv_at hl 4 rfl) ?_
  refine lv_aload_n hx hb dL_law_641 rfl (lv_at hl 2 rfl) ?_
  refine lv_iload hx hb dL_law_642 (lv_at hl 1 rfl) ?_
  refine lv_iconst (v := nI 1) hx hb dL_law_644 (by decide) ?_
  refine lv_iadd hx hb dL_law_645 ?_
  refine st_i (y := nI (i + 1)) (nI_add _ _) ?_
  refine la_sld hx hb hX0 hbl hbA hS (i := (i + 1)) (by omega) (by omega) dL_law_646 ?_
  have hP2 : va_P (dC, dI) vwCl ((OW oa ko (oU (kVa (xs (i + 1))) o (ltM (T.C (0 * 13 + 0)) T.d (xs (i + 1)))) ++ (PW ad k P ++ (FW ad k F ++ TW ad k T))) ++ MW mo km M) H := hP.sub [11, 12, 13, 14, 15, 16, 17, 18, 19, 20, 21, 22, 23, 0, 1, 2, 3, 4, 5, 6, 7, 8, 9, 10] rfl
  have hD2 : va_D (fun q : Nat => s.heap.size ≤ q) ((OW oa ko (oU (kVa (xs (i + 1))) o (ltM (T.C (0 * 13 + 0)) T.d (xs (i + 1)))) ++ (PW ad k P ++ (FW ad k F ++ TW ad k T))) ++ MW mo km M) := hD.sub [11, 12, 13, 14, 15, 16, 17, 18, 19, 20, 21, 22, 23, 0, 1, 2, 3, 4, 5, 6, 7, 8, 9, 10] (by decide) rfl
  refine wr_call (X := OW oa ko (oU (kVa (xs (i + 1))) o (ltM (T.C (0 * 13 + 0)) T.d (xs (i + 1)))) ++ (PW ad k P ++ (FW ad k F ++ TW ad k T))) (va_runV (As := [.int (xs (i + 1))]) (rest := []) ⟨hx, hb, hml, hown, hta⟩ (c_M_value l dC dI mo km M H.size (xs (i + 1)) (g11 _).1 (g11 _).2) (cwV 1 hta (gV m_624 m_625 m_626 m_4 m_627) rfl rfl rfl (by decide +kernel) ⟨Nat.le_of_ble_eq_true rfl, Nat.le_of_ble_eq_true rfl⟩) (wr_V xT_ok trivial (hK.sub [0, 1, 2, 3, 4, 5, 6, 7, 8, 9] rfl) (hP.sub [0, 1, 2, 3, 4, 5, 6, 7, 8, 9, 10] rfl) (hD.sub [0, 1, 2, 3, 4, 5, 6, 7, 8, 9, 10] (by decide) rfl) (ci := 2) (q0 := 0) rfl rfl) rfl rfl hl.1 rfl (lv_room (Nat.le_of_ble_eq_true rfl)) dL_law_647 ⟨by omega, by omega⟩) hP2 hD2 hS hA rfl (fun H locs hP hD hS => ?_)
  clear hP2 hD2
  obtain ⟨e1, e2, e3⟩ := o_value Re (xs (i + 1))
  have hP : va_P (dC, dI) vwCl (MW mo km ((vaM M (xs (i + 1))).2) ++ (OW oa ko (oU (kVa (xs (i + 1))) o (ltM (T.C (0 * 13 + 0)) T.d (xs (i + 1)))) ++ (PW ad k P ++ (FW ad k F ++ TW ad k T)))) H := hP.sub [13, 14, 15, 16, 17, 18, 19, 20, 21, 22, 23, 0, 1, 2, 3, 4, 5, 6, 7, 8, 9, 10, 11, 12] rfl
  have hD : va_D (fun q : Nat => s.heap.size ≤ q) (MW mo km ((vaM M (xs (i + 1))).2) ++ (OW oa ko (oU (kVa (xs (i + 1))) o (ltM (T.C (0 * 13 + 0)) T.d (xs (i + 1)))) ++ (PW ad k P ++ (FW ad k F ++ TW ad k T)))) := hD.sub [13, 14, 15, 16, 17, 18, 19, 20, 21, 22, 23, 0, 1, 2, 3, 4, 5, 6, 7, 8, 9, 10, 11, 12] (by decide) rfl
  refine W.eq (g2 := F0 m 650 ls [.long ((vaM M (xs (i + 1))).1)]) rfl ?_
  refine lv_lstore (lv' := [(6, .long ((vaM M (xs (i + 1))).1)), (5, .int (nI (kVa (xs (i + 1))))), (4, .int (nI i)), (0, .ref b), (1, .ref (ad 7)), (2, .ref (mo 0)), (3, .ref oa)]) hx hb dL_law_650 hl (by decide) rfl (fun ls hl => ?_)
  refine lv_aload_n hx hb dL_law_652 rfl (lv_at hl 5 rfl) ?_
  refine rd_call (va_runV (As := []) (rest := []) ⟨hx, hb, hml, hown, hta⟩ (c_M_thrown l dC dI mo km ((vaM M (xs (i + 1))).2)) (cwV 0 hta (gV m_550 m_551 m_552 m_4 m_553) rfl rfl rfl (by decide +kernel) ⟨Nat.le_of_ble_eq_true rfl, Nat.le_of_ble_eq_true rfl⟩) (rd_V xT_ok trivial (hK.sub [0, 1, 2, 3, 4, 5, 6, 7, 8, 9] rfl) (hP.sub [0, 1, 2, 3, 4, 5, 6, 7, 8, 9, 10] rfl) (ci := 2) (q0 := 0) rfl rfl) rfl rfl hl.1 rfl (lv_room (Nat.le_of_ble_eq_true rfl)) dL_law_653 ⟨by omega, by omega⟩) ?_
  refine W.eq (g2 := F0 m 656 ls [.int (nI ((vaM M (xs (i + 1))).2).thr)]) rfl ?_
  refine st_i (y := nI (kVa (xs (i + 1)))) (congrArg nI e1) ?_
  refine lv_iload hx hb dL_law_656 (lv_at hl 1 rfl) ?_
  refine lv_icmp_eq (tgt := 663) hx hb dL_law_658 (by decide) (fun c1 => ?_) (fun c1 => ?_)
  · refine lv_iload hx hb dL_law_663 (lv_at hl 1 rfl) ?_
    refine lv_if_ne (tgt := 679) hx hb dL_law_665 (by decide) (fun c2 => ?_) (fun c2 => ?_)
    · refine lv_goto (tgt := 934) hx hb dL_law_679 (by decide) ?_
      exact kk P F T ((vaM M (xs (i + 1))).2) (oU (kVa (xs (i + 1))) o (ltM (T.C (0 * 13 + 0)) T.d (xs (i + 1)))) H locs ls e2 hP hD hS (lv_sub hl [2, 3, 4, 5, 6] rfl)
    · have hk0 := k0_of (by unfold kVa; (repeat' split) <;> omega) c2
      have e4 := e3 hk0
      refine lv_aload_n hx hb dL_law_668 rfl (lv_at hl 6 rfl) ?_
      refine lv_iconst (v := nI 0) hx hb dL_law_669 (by decide) ?_
      refine na_lald hx hb hK hP 11 10 rfl rfl (i := 0) (by decide) (by decide) dL_law_670 ?_
      refine st_l (y := ltM (T.C (0 * 13 + 0)) T.d (xs (i + 1))) (oU_at hk0) ?_
      refine lv_lload hx hb dL_law_671 (lv_at hl 0 rfl) ?_
      refine st_l (y := ltM (T.C (0 * 13 + 0)) T.d (xs (i + 1))) e4 ?_
      refine ll_eq (tgt := 679) hx hb dL_law_673 dL_law_674 (by decide) (fun c3 => ?_) (fun c3 => ?_)
      · refine lv_goto (tgt := 934) hx hb dL_law_679 (by decide) ?_
        exact kk P F T ((vaM M (xs (i + 1))).2) (oU (kVa (xs (i + 1))) o (ltM (T.C (0 * 13 + 0)) T.d (xs (i + 1)))) H locs ls e2 hP hD hS (lv_sub hl [2, 3, 4, 5, 6] rfl)
      · exact absurd rfl c3
  · exact absurd rfl c1

set_option maxHeartbeats 4000000 in
set_option maxRecDepth 100000 in
theorem op_share {p : Program} {e : Env} {s : State} {m : MethodId} {below : List Frame} {meth : Method} {c : Code} (l : Launch) (hlt : l.stackTraces = false) {b L : Nat} {xs : Nat → Int32} (hL : L ≤ 2561) (C0 : lw_At p s m meth c b L xs) (dC : Nat → ClassId) (dI : Nat → Nat → Nat) (hX : nW s) (hss : sW s) (hzA : zA s) (ad : Nat → Nat) (k : Nat → ClassId) (oa : Nat) (ko : ClassId) (mo : Nat → Nat) (km : Nat → ClassId) (hK : va_K (dC, dI) vwCl (MK km ++ (OQ ko ++ (PK k ++ (FK k ++ TK k)))) s) (P : PS) (F : Nat → Int32) (T : TS) (M : MS) (o : Nat → Int64) (H : Heap) (locs : List Loc) (ls : Array Slot) (cells slots i : Nat) (Re : Rel P F T M) (hi : i + 5 ≤ L) (hP : va_P (dC, dI) vwCl (MW mo km M ++ (OW oa ko o ++ (PW ad k P ++ (FW ad k F ++ TW ad k T)))) H) (hD : va_D (fun q : Nat => s.heap.size ≤ q) (MW mo km M ++ (OW oa ko o ++ (PW ad k P ++ (FW ad k F ++ TW ad k T))))) (hS : va_S (fun q : Nat => s.heap.size ≤ q) s.heap H locs) (hl : lv_has ls 8 [(4, .int (nI i)), (0, .ref b), (1, .ref (ad 7)), (2, .ref (mo 0)), (3, .ref oa)]) (hc1 : cells + 1 ≤ room_1.cells) (hc2 : slots + 6 ≤ room_1.slots) (kk : ∀ (P : PS) (F : Nat → Int32) (T : TS) (M : MS) (o : Nat → Int64) (H : Heap) (locs : List Loc) (ls : Array Slot), Rel P F T M → va_P (dC, dI) vwCl (MW mo km M ++ (OW oa ko o ++ (PW ad k P ++ (FW ad k F ++ TW ad k T)))) H → va_D (fun q : Nat => s.heap.size ≤ q) (MW mo km M ++ (OW oa ko o ++ (PW ad k P ++ (FW ad k F ++ TW ad k T)))) → va_S (fun q : Nat => s.heap.size ≤ q) s.heap H locs → lv_has ls 8 [(4, .int (nI i)), (0, .ref b), (1, .ref (ad 7)), (2, .ref (mo 0)), (3, .ref oa)] → W p l e room_1 s m #[Value.ref b] below meth c H locs (cells + 1) (slots + 6) (lw_Z below #[Value.ref b] s) (F0 m 934 ls [])) : W p l e room_1 s m #[Value.ref b] below meth c H locs cells slots (lw_Z below #[Value.ref b] s) (F0 m 682 ls []) := by
  obtain ⟨hx, hb, hr, hml, hown, hts, hX0, hbl, hlocks, hgv⟩ := id C0
  have hown : s.vm.findClass RL = some m.cls := hown
  have hta : ∀ w ∈ AW, w.before #[Value.ref b] s = true := fun w h => hts w (AW_in h)
  have hA : ∀ q : Nat, s.heap.size ≤ q → (fun q : Nat => s.heap.size ≤ q) q := fun _ h => h
  have hbA : ¬ (fun q : Nat => s.heap.size ≤ q) b := Nat.not_le.mpr hbl
  obtain ⟨g1, g2, g3, g4, g5, g6, g7, g8, g9, g10, g11, g12⟩ := Re.lim
  refine lv_aload_n hx hb dL_law_682 rfl (lv_at hl 2 rfl) ?_
  refine lv_aload_n hx hb dL_law_683 rfl (lv_at hl 1 rfl) ?_
  refine lv_iload hx hb dL_law_684 (lv_at hl 0 rfl) ?_
  refine lv_iconst (v := nI 1) hx hb dL_law_686 (by decide) ?_
  refine lv_iadd hx hb dL_law_687 ?_
  refine st_i (y := nI (i + 1)) (nI_add _ _) ?_
  refine la_sld hx hb hX0 hbl hbA hS (i := (i + 1)) (by omega) (by omega) dL_law_688 ?_
  refine lv_aload_n hx hb dL_law_689 rfl (lv_at hl 1 rfl) ?_
  refine lv_iload hx hb dL_law_690 (lv_at hl 0 rfl) ?_
  refine lv_iconst (v := nI 2) hx hb dL_law_692 (by decide) ?_
  refine lv_iadd hx hb dL_law_693 ?_
  refine st_i (y := nI (i + 2)) (nI_add _ _) ?_
  refine la_sld hx hb hX0 hbl hbA hS (i := (i + 2)) (by omega) (by omega) dL_law_694 ?_
  refine lv_aload_n hx hb dL_law_695 rfl (lv_at hl 4 rfl) ?_
  have hzH := zA_W hzA hS
  refine wr_call (X := MW mo km M) (vx_va (vx_runSX (As := [.ref (ad 7), .int (xs (i + 1)), .int (xs (i + 2)), .ref oa]) (rest := []) ⟨hx, hb, hml, hown, hta⟩ (h_L_share l hlt dC dI ad k oa ko o P F T H.size (xs (i + 1)) (xs (i + 2)) g3 g4 g5 g6) (vx_cwSW 4 hta (gH m_451 m_452 m_0 m_453) rfl rfl rfl (by decide +kernel) ⟨Nat.le_of_ble_eq_true rfl, Nat.le_of_ble_eq_true rfl⟩) (hd_S hX hss hzH (hK.sub [10, 11, 12, 13, 14, 15, 16, 17, 18, 19, 20] rfl) (hP.sub [11, 12, 13, 14, 15, 16, 17, 18, 19, 20, 21, 22, 23] rfl) (hD.sub [11, 12, 13, 14, 15, 16, 17, 18, 19, 20, 21, 22, 23] (by decide) rfl)) rfl rfl hl.1 rfl (lv_room (Nat.le_of_ble_eq_true rfl)) dL_law_696 ⟨by omega, by omega⟩)) hP hD hS hA rfl (fun H locs hP hD hS => ?_)
  have hP : va_P (dC, dI) vwCl (MW mo km M ++ (OW oa ko (oU (kSh T.w (xs (i + 1)) (xs (i + 2))) o (ltM (T.start (nI ((idx T.w (xs (i + 1))).getD 0))) T.d (xs (i + 2)))) ++ (PW ad k P ++ (FW ad k F ++ TW ad k T)))) H := hP
  have hD : va_D (fun q : Nat => s.heap.size ≤ q) (MW mo km M ++ (OW oa ko (oU (kSh T.w (xs (i + 1)) (xs (i + 2))) o (ltM (T.start (nI ((idx T.w (xs (i + 1))).getD 0))) T.d (xs (i + 2)))) ++ (PW ad k P ++ (FW ad k F ++ TW ad k T)))) := hD
  refine W.eq (g2 := F0 m 699 ls [.int (nI (kSh T.w (xs (i + 1)) (xs (i + 2))))]) rfl ?_
  refine lv_istore (lv' := [(5, .int (nI (kSh T.w (xs (i + 1)) (xs (i + 2))))), (4, .int (nI i)), (0, .ref b), (1, .ref (ad 7)), (2, .ref (mo 0)), (3, .ref oa)]) hx hb dL_law_699 hl (by decide) rfl (fun ls hl => ?_)
  refine lv_aload_n hx hb dL_law_701 rfl (lv_at hl 4 rfl) ?_
  refine lv_aload_n hx hb dL_law_702 rfl (lv_at hl 2 rfl) ?_
  refine lv_iload hx hb dL_law_703 (lv_at hl 1 rfl) ?_
  refine lv_iconst (v := nI 1) hx hb dL_law_705 (by decide) ?_
  refine lv_iadd hx hb dL_law_706 ?_
  refine st_i (y := nI (i + 1)) (nI_add _ _) ?_
  refine la_sld hx hb hX0 hbl hbA hS (i := (i + 1)) (by omega) (by omega) dL_law_707 ?_
  refine lv_aload_n hx hb dL_law_708 rfl (lv_at hl 2 rfl) ?_
  refine lv_iload hx hb dL_law_709 (lv_at hl 1 rfl) ?_
  refine lv_iconst (v := nI 2) hx hb dL_law_711 (by decide) ?_
  refine lv_iadd hx hb dL_law_712 ?_
  refine st_i (y := nI (i + 2)) (nI_add _ _) ?_
  refine la_sld hx hb hX0 hbl hbA hS (i := (i + 2)) (by omega) (by omega) dL_law_713 ?_
  have hP2 : va_P (dC, dI) vwCl ((OW oa ko (oU (kSh T.w (xs (i + 1)) (xs (i + 2))) o (ltM (T.start (nI ((idx T.w (xs (i + 1))).getD 0))) T.d (xs (i + 2)))) ++ (PW ad k P ++ (FW ad k F ++ TW ad k T))) ++ MW mo km M) H := hP.sub [11, 12, 13, 14, 15, 16, 17, 18, 19, 20, 21, 22, 23, 0, 1, 2, 3, 4, 5, 6, 7, 8, 9, 10] rfl
  have hD2 : va_D (fun q : Nat => s.heap.size ≤ q) ((OW oa ko (oU (kSh T.w (xs (i + 1)) (xs (i + 2))) o (ltM (T.start (nI ((idx T.w (xs (i + 1))).getD 0))) T.d (xs (i + 2)))) ++ (PW ad k P ++ (FW ad k F ++ TW ad k T))) ++ MW mo km M) := hD.sub [11, 12, 13, 14, 15, 16, 17, 18, 19, 20, 21, 22, 23, 0, 1, 2, 3, 4, 5, 6, 7, 8, 9, 10] (by decide) rfl
  refine wr_call (X := OW oa ko (oU (kSh T.w (xs (i + 1)) (xs (i + 2))) o (ltM (T.start (nI ((idx T.w (xs (i + 1))).getD 0))) T.d (xs (i + 2)))) ++ (PW ad k P ++ (FW ad k F ++ TW ad k T))) (va_runV (As := [.int (xs (i + 1)), .int (xs (i + 2))]) (rest := []) ⟨hx, hb, hml, hown, hta⟩ (c_M_share l dC dI mo km M H.size (xs (i + 1)) (xs (i + 2)) g8 (by omega) g11) (cwV 2 hta (gV m_639 m_640 m_641 m_4 m_642) rfl rfl rfl (by decide +kernel) ⟨Nat.le_of_ble_eq_true rfl, Nat.le_of_ble_eq_true rfl⟩) (wr_V xT_ok trivial (hK.sub [0, 1, 2, 3, 4, 5, 6, 7, 8, 9] rfl) (hP.sub [0, 1, 2, 3, 4, 5, 6, 7, 8, 9, 10] rfl) (hD.sub [0, 1, 2, 3, 4, 5, 6, 7, 8, 9, 10] (by decide) rfl) (ci := 2) (q0 := 0) rfl rfl) rfl rfl hl.1 rfl (lv_room (Nat.le_of_ble_eq_true rfl)) dL_law_714 ⟨by omega, by omega⟩) hP2 hD2 hS hA rfl (fun H locs hP hD hS => ?_)
  clear hP2 hD2
  obtain ⟨e1, e2, e3⟩ := o_share Re (xs (i + 1)) (xs (i + 2))
  have hP : va_P (dC, dI) vwCl (MW mo km ((shM M (xs (i + 1)) (xs (i + 2))).2) ++ (OW oa ko (oU (kSh T.w (xs (i + 1)) (xs (i + 2))) o (ltM (T.start (nI ((idx T.w (xs (i + 1))).getD 0))) T.d (xs (i + 2)))) ++ (PW ad k P ++ (FW ad k F ++ TW ad k T)))) H := hP.sub [13, 14, 15, 16, 17, 18, 19, 20, 21, 22, 23, 0, 1, 2, 3, 4, 5, 6, 7, 8, 9, 10, 11, 12] rfl
  have hD : va_D (fun q : Nat => s.heap.size ≤ q) (MW mo km ((shM M (xs (i + 1)) (xs (i + 2))).2) ++ (OW oa ko (oU (kSh T.w (xs (i + 1)) (xs (i + 2))) o (ltM (T.start (nI ((idx T.w (xs (i + 1))).getD 0))) T.d (xs (i + 2)))) ++ (PW ad k P ++ (FW ad k F ++ TW ad k T)))) := hD.sub [13, 14, 15, 16, 17, 18, 19, 20, 21, 22, 23, 0, 1, 2, 3, 4, 5, 6, 7, 8, 9, 10, 11, 12] (by decide) rfl
  refine W.eq (g2 := F0 m 717 ls [.long ((shM M (xs (i + 1)) (xs (i + 2))).1)]) rfl ?_
  refine lv_lstore (lv' := [(6, .long ((shM M (xs (i + 1)) (xs (i + 2))).1)), (5, .int (nI (kSh T.w (xs (i + 1)) (xs (i + 2))))), (4, .int (nI i)), (0, .ref b), (1, .ref (ad 7)), (2, .ref (mo 0)), (3, .ref oa)]) hx hb dL_law_717 hl (by decide) rfl (fun ls hl => ?_)
  refine lv_aload_n hx hb dL_law_719 rfl (lv_at hl 5 rfl) ?_
  refine rd_call (va_runV (As := []) (rest := []) ⟨hx, hb, hml, hown, hta⟩ (c_M_thrown l dC dI mo km ((shM M (xs (i + 1)) (xs (i + 2))).2)) (cwV 0 hta (gV m_550 m_551 m_552 m_4 m_553) rfl rfl rfl (by decide +kernel) ⟨Nat.le_of_ble_eq_true rfl, Nat.le_of_ble_eq_true rfl⟩) (rd_V xT_ok trivial (hK.sub [0, 1, 2, 3, 4, 5, 6, 7, 8, 9] rfl) (hP.sub [0, 1, 2, 3, 4, 5, 6, 7, 8, 9, 10] rfl) (ci := 2) (q0 := 0) rfl rfl) rfl rfl hl.1 rfl (lv_room (Nat.le_of_ble_eq_true rfl)) dL_law_720 ⟨by omega, by omega⟩) ?_
  refine W.eq (g2 := F0 m 723 ls [.int (nI ((shM M (xs (i + 1)) (xs (i + 2))).2).thr)]) rfl ?_
  refine st_i (y := nI (kSh T.w (xs (i + 1)) (xs (i + 2)))) (congrArg nI e1) ?_
  refine lv_iload hx hb dL_law_723 (lv_at hl 1 rfl) ?_
  refine lv_icmp_eq (tgt := 730) hx hb dL_law_725 (by decide) (fun c1 => ?_) (fun c1 => ?_)
  · refine lv_iload hx hb dL_law_730 (lv_at hl 1 rfl) ?_
    refine lv_if_ne (tgt := 746) hx hb dL_law_732 (by decide) (fun c2 => ?_) (fun c2 => ?_)
    · refine lv_goto (tgt := 934) hx hb dL_law_746 (by decide) ?_
      exact kk P F T ((shM M (xs (i + 1)) (xs (i + 2))).2) (oU (kSh T.w (xs (i + 1)) (xs (i + 2))) o (ltM (T.start (nI ((idx T.w (xs (i + 1))).getD 0))) T.d (xs (i + 2)))) H locs ls e2 hP hD hS (lv_sub hl [2, 3, 4, 5, 6] rfl)
    · have hk0 := k0_of (by unfold kSh; (repeat' split) <;> omega) c2
      have e4 := e3 hk0
      refine lv_aload_n hx hb dL_law_735 rfl (lv_at hl 6 rfl) ?_
      refine lv_iconst (v := nI 0) hx hb dL_law_736 (by decide) ?_
      refine na_lald hx hb hK hP 11 10 rfl rfl (i := 0) (by decide) (by decide) dL_law_737 ?_
      refine st_l (y := ltM (T.start (nI ((idx T.w (xs (i + 1))).getD 0))) T.d (xs (i + 2))) (oU_at hk0) ?_
      refine lv_lload hx hb dL_law_738 (lv_at hl 0 rfl) ?_
      refine st_l (y := ltM (T.start (nI ((idx T.w (xs (i + 1))).getD 0))) T.d (xs (i + 2))) e4 ?_
      refine ll_eq (tgt := 746) hx hb dL_law_740 dL_law_741 (by decide) (fun c3 => ?_) (fun c3 => ?_)
      · refine lv_goto (tgt := 934) hx hb dL_law_746 (by decide) ?_
        exact kk P F T ((shM M (xs (i + 1)) (xs (i + 2))).2) (oU (kSh T.w (xs (i + 1)) (xs (i + 2))) o (ltM (T.start (nI ((idx T.w (xs (i + 1))).getD 0))) T.d (xs (i + 2)))) H locs ls e2 hP hD hS (lv_sub hl [2, 3, 4, 5, 6] rfl)
      · exact absurd rfl c3
  · exact absurd rfl c1
