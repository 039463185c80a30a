set_option maxHeartbeats 4000000 in
set_option maxRecDepth 100000 in
theorem law_loop {p : Program} {e : Env} {s : State} {m : MethodId} {below : List Frame} {meth : Method} {c : Code} (l : Launch) (hlt : l.stackTraces = false) {b L : Nat} {xs : Nat → Int32} (hL : L ≤ 2561) (C0 : lw_At p s m meth c b L xs) (dC : Nat → ClassId) (dI : Nat → Nat → Nat) (hX : nW s) (hss : sW s) (hzA : zA s) (ad : Nat → Nat) (k : Nat → ClassId) (oa : Nat) (ko : ClassId) (mo : Nat → Nat) (km : Nat → ClassId) (hK : va_K (dC, dI) vwCl (MK km ++ (OQ ko ++ (PK k ++ (FK k ++ TK k)))) s) : ∀ (n t : Nat) (P : PS) (F : Nat → Int32) (T : TS) (M : MS) (o : Nat → Int64) (H : Heap) (locs : List Loc) (ls : Array Slot), t + n = 512 → Rel P F T M → va_P (dC, dI) vwCl (MW mo km M ++ (OW oa ko o ++ (PW ad k P ++ (FW ad k F ++ TW ad k T)))) H → va_D (fun q : Nat => s.heap.size ≤ q) (MW mo km M ++ (OW oa ko o ++ (PW ad k P ++ (FW ad k F ++ TW ad k T)))) → va_S (fun q : Nat => s.heap.size ≤ q) s.heap H locs → lv_has ls 8 [(4, .int (nI (1 + 5 * t))), (0, .ref b), (1, .ref (ad 7)), (2, .ref (mo 0)), (3, .ref oa)] → W p l e room_1 s m #[Value.ref b] below meth c H locs (24 + t) (1848 + 6 * t) (lw_Z below #[Value.ref b] s) (F0 m 33 ls []) := by
  obtain ⟨hx, hb, hr, hml, hown, hts, hX0, hbl, hlocks, hgv⟩ := id C0
  have hbA : ¬ (fun q : Nat => s.heap.size ≤ q) b := Nat.not_le.mpr hbl
  have hrc : room_1.cells = 1062 := rfl
  have hrs : room_1.slots = 10124 := rfl
  intro n
  induction n with
  | zero =>
    intro t P F T M o H locs ls hn Re hP hD hS hl
    refine lv_iload hx hb dL_law_33 (lv_at hl 0 rfl) ?_
    refine lv_aload_n hx hb dL_law_35 rfl (lv_at hl 1 rfl) ?_
    refine va_slen hx hb hX0 hbl hbA hS dL_law_36 ?_
    refine W.eq (g2 := F0 m 37 ls [.int (nI L), .int (nI (1 + 5 * t))]) rfl ?_
    refine lv_iconst (v := nI 5) hx hb dL_law_37 (by decide) ?_
    refine lv_isub hx hb dL_law_38 ?_
    have e5 : (nI L - nI 5).toInt = (L : Int) - 5 := pk_sub_toInt (by omega) (by omega)
    have ei : (nI (1 + 5 * t)).toInt = ((1 + 5 * t : Nat) : Int) := nI_toInt (by omega)
    refine lv_icmp_gt (tgt := 940) hx hb dL_law_39 (by decide) (fun h1 => ?_) (fun h1 => ?_)
    · refine va_forget hS.2.2 ?_
      refine W.widen (k := 1062) (n := 10124) (by omega) (by omega) ?_
      refine lv_iconst (v := 1) hx hb dL_law_940 (by decide) ?_
      exact lw_ret hx hb hr hlocks dL_law_941
    · rw [Int32.lt_iff_toInt_lt, e5, ei] at h1
      omega
  | succ n ih =>
    intro t P F T M o H locs ls hn Re hP hD hS hl
    refine lv_iload hx hb dL_law_33 (lv_at hl 0 rfl) ?_
    refine lv_aload_n hx hb dL_law_35 rfl (lv_at hl 1 rfl) ?_
    refine va_slen hx hb hX0 hbl hbA hS dL_law_36 ?_
    refine W.eq (g2 := F0 m 37 ls [.int (nI L), .int (nI (1 + 5 * t))]) rfl ?_
    refine lv_iconst (v := nI 5) hx hb dL_law_37 (by decide) ?_
    refine lv_isub hx hb dL_law_38 ?_
    have e5 : (nI L - nI 5).toInt = (L : Int) - 5 := pk_sub_toInt (by omega) (by omega)
    have ei : (nI (1 + 5 * t)).toInt = ((1 + 5 * t : Nat) : Int) := nI_toInt (by omega)
    refine lv_icmp_gt (tgt := 940) hx hb dL_law_39 (by decide) (fun h1 => ?_) (fun h1 => ?_)
    · refine va_forget hS.2.2 ?_
      refine W.widen (k := 1062) (n := 10124) (by omega) (by omega) ?_
      refine lv_iconst (v := 1) hx hb dL_law_940 (by decide) ?_
      exact lw_ret hx hb hr hlocks dL_law_941
    · rw [Int32.lt_iff_toInt_lt, e5, ei] at h1
      have tail9 : ∀ (P : PS) (F : Nat → Int32) (T : TS) (M : MS) (o : Nat → Int64) (H : Heap) (locs : List Loc) (ls : Array Slot), Rel P F T M → va_P (dC, dI) vwCl (MW mo km M ++ (OW oa ko o ++ (PW ad k P ++ (FW ad k F ++ TW ad k T)))) H → va_D (fun q : Nat => s.heap.size ≤ q) (MW mo km M ++ (OW oa ko o ++ (PW ad k P ++ (FW ad k F ++ TW ad k T)))) → va_S (fun q : Nat => s.heap.size ≤ q) s.heap H locs → lv_has ls 8 [(4, .int (nI (1 + 5 * t))), (0, .ref b), (1, .ref (ad 7)), (2, .ref (mo 0)), (3, .ref oa)] → W p l e room_1 s m #[Value.ref b] below meth c H locs (24 + t + 1) (1848 + 6 * t + 6) (lw_Z below #[Value.ref b] s) (F0 m 934 ls []) := by
        intro P F T M o H locs ls Re hP hD hS hl
        refine lv_iinc (v := nI (1 + 5 * (t + 1))) (lv' := [(4, .int (nI (1 + 5 * (t + 1)))), (0, .ref b), (1, .ref (ad 7)), (2, .ref (mo 0)), (3, .ref oa)]) hx hb dL_law_934 hl (k := 0) rfl (by rw [show 1 + 5 * (t + 1) = 1 + 5 * t + 5 by omega]; exact nI_add _ 5) (by decide) rfl (fun ls hl => ?_)
        refine lv_goto (tgt := 33) hx hb dL_law_937 (by decide) ?_
        refine W.widen (k := 24 + (t + 1)) (n := 1848 + 6 * (t + 1)) (by omega) (by omega) ?_
        exact ih (t + 1) P F T M o H locs ls (by omega) Re hP hD hS hl
      refine lv_aload_n hx hb dL_law_42 rfl (lv_at hl 1 rfl) ?_
      refine lv_iload hx hb dL_law_43 (lv_at hl 0 rfl) ?_
      refine la_sld hx hb hX0 hbl hbA hS (i := 1 + 5 * t) (by omega) (by omega) dL_law_45 ?_
      refine lv_bipush (v := nI 15) hx hb dL_law_46 (by decide) ?_
      refine lv_iand hx hb dL_law_48 ?_
      obtain ⟨j, hj, ej⟩ := pk_andE (xs (1 + 5 * t)) (m := nI 15) 4 (by decide)
      refine st_i (y := nI j) ej ?_
      rcases (show j = 0 ∨ j = 1 ∨ j = 2 ∨ j = 3 ∨ j = 4 ∨ j = 5 ∨ j = 6 ∨ j = 7 ∨ j = 8 ∨ j = 9 ∨ j = 10 ∨ j = 11 ∨ j = 12 ∨ 13 ≤ j by omega) with rfl | rfl | rfl | rfl | rfl | rfl | rfl | rfl | rfl | rfl | rfl | rfl | rfl | h2
      · refine lv_tableIn (tgt := 116) (off := 67) hx hb dL_law_49 (by decide) (by decide) (by decide) (by decide) ?_
        exact op_column l hlt hL C0 dC dI hX hss hzA ad k oa ko mo km hK P F T M o H locs ls (24 + t) (1848 + 6 * t) (1 + 5 * t) Re (by omega) hP hD hS hl (by omega) (by omega) tail9
      · refine lv_tableIn (tgt := 204) (off := 155) hx hb dL_law_49 (by decide) (by decide) (by decide) (by decide) ?_
        exact op_row l hlt hL C0 dC dI hX hss hzA ad k oa ko mo km hK P F T M o H locs ls (24 + t) (1848 + 6 * t) (1 + 5 * t) Re (by omega) hP hD hS hl (by omega) (by omega) tail9
      · refine lv_tableIn (tgt := 316) (off := 267) hx hb dL_law_49 (by decide) (by decide) (by decide) (by decide) ?_
        exact op_factor l hlt hL C0 dC dI hX hss hzA ad k oa ko mo km hK P F T M o H locs ls (24 + t) (1848 + 6 * t) (1 + 5 * t) Re (by omega) hP hD hS hl (by omega) (by omega) tail9
      · refine lv_tableIn (tgt := 396) (off := 347) hx hb dL_law_49 (by decide) (by decide) (by decide) (by decide) ?_
        exact op_cut l hlt hL C0 dC dI hX hss hzA ad k oa ko mo km hK P F T M o H locs ls (24 + t) (1848 + 6 * t) (1 + 5 * t) Re (by omega) hP hD hS hl (by omega) (by omega) tail9
      · refine lv_tableIn (tgt := 464) (off := 415) hx hb dL_law_49 (by decide) (by decide) (by decide) (by decide) ?_
        exact op_right l hlt hL C0 dC dI hX hss hzA ad k oa ko mo km hK P F T M o H locs ls (24 + t) (1848 + 6 * t) (1 + 5 * t) Re (by omega) hP hD hS hl (by omega) (by omega) tail9
      · refine lv_tableIn (tgt := 571) (off := 522) hx hb dL_law_49 (by decide) (by decide) (by decide) (by decide) ?_
        exact op_run l hlt hL C0 dC dI hX hss hzA ad k oa ko mo km hK P F T M o H locs ls (24 + t) (1848 + 6 * t) (1 + 5 * t) Re (by omega) hP hD hS hl (by omega) (by omega) tail9
      · refine lv_tableIn (tgt := 627) (off := 578) hx hb dL_law_49 (by decide) (by decide) (by decide) (by decide) ?_
        exact op_value l hlt hL C0 dC dI hX hss hzA ad k oa ko mo km hK P F T M o H locs ls (24 + t) (1848 + 6 * t) (1 + 5 * t) Re (by omega) hP hD hS hl (by omega) (by omega) tail9
      · refine lv_tableIn (tgt := 682) (off := 633) hx hb dL_law_49 (by decide) (by decide) (by decide) (by decide) ?_
        exact op_share l hlt hL C0 dC dI hX hss hzA ad k oa ko mo km hK P F T M o H locs ls (24 + t) (1848 + 6 * t) (1 + 5 * t) Re (by omega) hP hD hS hl (by omega) (by omega) tail9
      · refine lv_tableIn (tgt := 749) (off := 700) hx hb dL_law_49 (by decide) (by decide) (by decide) (by decide) ?_
        exact op_dual l hlt hL C0 dC dI hX hss hzA ad k oa ko mo km hK P F T M o H locs ls (24 + t) (1848 + 6 * t) (1 + 5 * t) Re (by omega) hP hD hS hl (by omega) (by omega) tail9
      · refine lv_tableIn (tgt := 816) (off := 767) hx hb dL_law_49 (by decide) (by decide) (by decide) (by decide) ?_
        exact op_factorOf l hlt hL C0 dC dI hX hss hzA ad k oa ko mo km hK P F T M o H locs ls (24 + t) (1848 + 6 * t) (1 + 5 * t) Re (by omega) hP hD hS hl (by omega) (by omega) tail9
      · refine lv_tableIn (tgt := 883) (off := 834) hx hb dL_law_49 (by decide) (by decide) (by decide) (by decide) ?_
        exact op_check l hlt hL C0 dC dI hX hss hzA ad k oa ko mo km hK P F T M o H locs ls (24 + t) (1848 + 6 * t) (1 + 5 * t) Re (by omega) hP hD hS hl (by omega) (by omega) tail9
      · refine lv_tableIn (tgt := 896) (off := 847) hx hb dL_law_49 (by decide) (by decide) (by decide) (by decide) ?_
        exact op_steps l hlt hL C0 dC dI hX hss hzA ad k oa ko mo km hK P F T M o H locs ls (24 + t) (1848 + 6 * t) (1 + 5 * t) Re (by omega) hP hD hS hl (by omega) (by omega) tail9
      · refine lv_tableIn (tgt := 909) (off := 860) hx hb dL_law_49 (by decide) (by decide) (by decide) (by decide) ?_
        exact op_count l hlt hL C0 dC dI hX hss hzA ad k oa ko mo km hK P F T M o H locs ls (24 + t) (1848 + 6 * t) (1 + 5 * t) Re (by omega) hP hD hS hl (by omega) (by omega) tail9
      · refine lv_tableOut (tgt := 934) hx hb dL_law_49 (Or.inr (by rw [nI_toInt (by omega)]; omega)) (by decide) ?_
        refine W.widen (k := 24 + t + 1) (n := 1848 + 6 * t + 6) (by omega) (by omega) ?_
        exact tail9 P F T M o H locs ls Re hP hD hS hl
