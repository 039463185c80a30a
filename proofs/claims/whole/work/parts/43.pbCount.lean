def ctP (P : PS) (T : TS) (x : Int32) : Int32 := if x = 0 then nI T.w else if x = 1 then nI P.rows else if x = 2 then nI T.h else if x = 3 then T.d.toInt32 else if x = 4 then P.wk else if x < 5 then -1 else if x - 5 < P.wk then nI (rwL P.V (x - 5) 0 P.rows 0) else -1
set_option maxHeartbeats 4000000 in
set_option maxRecDepth 100000 in
theorem c_P_count (l : Launch) (dC : Nat → ClassId) (dI : Nat → Nat → Nat) (ad : Nat → Nat) (k : Nat → ClassId) (P : PS) (F : Nat → Int32) (T : TS) (x : Int32) (hro : P.rows ≤ 12) : Met l yP_count wP_count ({ frames := 1, cells := 0, slots := 0, locals := 23 }) (rPc [.ref (ad 7), .int x] (dC, dI) vwCl (PW ad k P ++ (FW ad k F ++ TW ad k T)) (PK k ++ (FK k ++ TK k)) nW) (rQ (some (.int (ctP P T x)))) 0 0 (fun _ => False) := by
  refine Met.ofW (cc := bP_count) (maxL := 2) (ret := (some .int)) (by decide) rfl ?_
  intro p e s m args below meth c s₁ B hml hv
  obtain ⟨rfl, hP, hK, hX⟩ := hv
  have hx := B.exec
  have hb := B.bytes
  have hr := B.returns
  have hts := atoms_spec (ws := wP_count) B.pre
  have hta : ∀ w ∈ AW, w.before _ s = true := fun w h => hts w (List.mem_cons_of_mem _ h)
  have hown : s.vm.findClass RP = some m.cls := findClass_of_methodNamed B.named
  have hlocks := B.notSynchronized
  have hl := lv_entry ([.ref (ad 7), .int x]) (n := 2) (Nat.le_of_ble_eq_true rfl)
  rw [lg_entry_eq]
  generalize (lg_sl ([.ref (ad 7), .int x]) ++ List.replicate (2 - (lg_sl ([.ref (ad 7), .int x])).length) Slot.unset).toArray = ls at hl ⊢
  have hl : lv_has ls 2 [(0, .ref (ad 7)), (1, .int x)] := hl
  refine lv_iload_n hx hb dP_count_0 rfl (lv_at hl 1 rfl) ?_
  by_cases q0 : x.toInt < 0 ∨ 4 < x.toInt
  · refine lv_tableOut (tgt := 71) hx hb dP_count_1 q0 (by decide) ?_
    have n0 : ¬ x = 0 := fun z => by rw [z] at q0; exact absurd q0 (by decide)
    have n1 : ¬ x = 1 := fun z => by rw [z] at q0; exact absurd q0 (by decide)
    have n2 : ¬ x = 2 := fun z => by rw [z] at q0; exact absurd q0 (by decide)
    have n3 : ¬ x = 3 := fun z => by rw [z] at q0; exact absurd q0 (by decide)
    have n4 : ¬ x = 4 := fun z => by rw [z] at q0; exact absurd q0 (by decide)
    refine lv_iload_n hx hb dP_count_71 rfl (lv_at hl 1 rfl) ?_
    refine lv_iconst (v := 5) hx hb dP_count_72 (by decide) ?_
    refine lv_icmp_lt (tgt := 96) hx hb dP_count_73 (by decide) (fun c1 => ?_) (fun c1 => ?_)
    · refine lv_iconst (v := (-1)) hx hb dP_count_96 (by decide) ?_
      exact W.iret (v := (-1)) hx hb hr (fun t ht hW => ⟨congrArg (fun z => Outcome.returned (some (.int z))) (by first | (rw [ctP, if_neg n0, if_neg n1, if_neg n2, if_neg n3, if_neg n4, if_pos c1]; done) | (rw [ctP, if_neg n0, if_neg n1, if_neg n2, if_neg n3, if_neg n4, if_neg c1, if_neg c2]; done) | (rw [ctP, if_neg n0, if_neg n1, if_neg n2, if_neg n3, if_neg n4, if_neg c1, if_pos c2]; done)), ht⟩) (fun q h => nomatch h) dP_count_97
    · refine lv_iload_n hx hb dP_count_76 rfl (lv_at hl 1 rfl) ?_
      refine lv_iconst (v := 5) hx hb dP_count_77 (by decide) ?_
      refine lv_isub hx hb dP_count_78 ?_
      refine lv_aload_n hx hb dP_count_79 rfl (lv_at hl 0 rfl) ?_
      refine va_get (D := (dC, dI)) (ci := 1) (v := .int P.wk) (C := RP) (T := FP) (N := 12) hx hb hta iP hown hK hP 0 rfl rfl 0 (by decide) (hta _ m_63) (fun _ h9 => h9) rfl dP_count_80 ?_
      refine li_ge (tgt := 96) hx hb dP_count_83 (by decide) (fun c2 => ?_) (fun c2 => ?_)
      · refine lv_iconst (v := (-1)) hx hb dP_count_96 (by decide) ?_
        exact W.iret (v := (-1)) hx hb hr (fun t ht hW => ⟨congrArg (fun z => Outcome.returned (some (.int z))) (by first | (rw [ctP, if_neg n0, if_neg n1, if_neg n2, if_neg n3, if_neg n4, if_pos c1]; done) | (rw [ctP, if_neg n0, if_neg n1, if_neg n2, if_neg n3, if_neg n4, if_neg c1, if_neg c2]; done) | (rw [ctP, if_neg n0, if_neg n1, if_neg n2, if_neg n3, if_neg n4, if_neg c1, if_pos c2]; done)), ht⟩) (fun q h => nomatch h) dP_count_97
      · refine lv_aload_n hx hb dP_count_86 rfl (lv_at hl 0 rfl) ?_
        refine lv_iload_n hx hb dP_count_87 rfl (lv_at hl 1 rfl) ?_
        refine lv_iconst (v := 5) hx hb dP_count_88 (by decide) ?_
        refine lv_isub hx hb dP_count_89 ?_
        refine rd_call (va_runV (As := [.int (x - 5)]) (rest := []) ⟨hx, hb, hml, hown, hta⟩ (c_P_rowsOfWeek l dC dI ad k P F T (x - 5) (by first | omega | exact hw | exact hh)) (cwV 1 hta (gV m_135 m_137 mp_5 m_1 m_138) rfl rfl rfl (by decide +kernel) ⟨Nat.le_of_ble_eq_true rfl, Nat.le_of_ble_eq_true rfl⟩) (rd_V nW_ok hX hK hP (ci := 1) (q0 := 0) rfl rfl) rfl rfl hl.1 rfl (lv_room (Nat.le_of_ble_eq_true rfl)) dP_count_90 ⟨Nat.zero_le _, Nat.zero_le _⟩) ?_
        refine W.eq (g2 := F0 m 93 ls [.int (nI (rwL P.V (x - 5) 0 P.rows 0))]) rfl ?_
        refine lv_goto (tgt := 97) hx hb dP_count_93 (by decide) ?_
        exact W.iret (v := nI (rwL P.V (x - 5) 0 P.rows 0)) hx hb hr (fun t ht hW => ⟨congrArg (fun z => Outcome.returned (some (.int z))) (by first | (rw [ctP, if_neg n0, if_neg n1, if_neg n2, if_neg n3, if_neg n4, if_pos c1]; done) | (rw [ctP, if_neg n0, if_neg n1, if_neg n2, if_neg n3, if_neg n4, if_neg c1, if_neg c2]; done) | (rw [ctP, if_neg n0, if_neg n1, if_neg n2, if_neg n3, if_neg n4, if_neg c1, if_pos c2]; done)), ht⟩) (fun q h => nomatch h) dP_count_97
  · have q1 : x = 0 ∨ x = 1 ∨ x = 2 ∨ x = 3 ∨ x = 4 := by
      have h9 : x.toInt = 0 ∨ x.toInt = 1 ∨ x.toInt = 2 ∨ x.toInt = 3 ∨ x.toInt = 4 := by omega
      rcases h9 with h | h | h | h | h
      · exact Or.inl (Int32.toInt_inj.mp h)
      · exact Or.inr (Or.inl (Int32.toInt_inj.mp h))
      · exact Or.inr (Or.inr (Or.inl (Int32.toInt_inj.mp h)))
      · exact Or.inr (Or.inr (Or.inr (Or.inl (Int32.toInt_inj.mp h))))
      · exact Or.inr (Or.inr (Or.inr (Or.inr (Int32.toInt_inj.mp h))))
    rcases q1 with q1 | q1 | q1 | q1 | q1
    · refine lv_tableIn (tgt := 36) (off := 35) hx hb dP_count_1 (by rw [q1]; decide) (by rw [q1]; decide) (by rw [q1]; decide) (by decide) ?_
      refine lv_aload_n hx hb dP_count_36 rfl (lv_at hl 0 rfl) ?_
      refine va_get (D := (dC, dI)) (ci := 1) (v := .ref (ad 0)) (C := RP) (T := FP) (N := 12) hx hb hta iP hown hK hP 0 rfl rfl 6 (by decide) (hta _ m_69) (fun _ h9 => h9) rfl dP_count_37 ?_
      refine va_getN (D := (dC, dI)) (ci := 0) (v := .int (nI T.w)) (C := RT) (T := FT) (N := 8) hx hb hta iT hown hK hP 6 rfl rfl 5 (by decide) (va_Nw.use rfl (hX _ nw_2)) (fun _ h9 => h9) rfl dP_count_40 ?_
      exact W.iret (v := nI T.w) hx hb hr (fun t ht hW => ⟨congrArg (fun z => Outcome.returned (some (.int z))) (by rw [ctP, q1]; rfl), ht⟩) (fun q h => nomatch h) dP_count_43
    · refine lv_tableIn (tgt := 44) (off := 43) hx hb dP_count_1 (by rw [q1]; decide) (by rw [q1]; decide) (by rw [q1]; decide) (by decide) ?_
      refine lv_aload_n hx hb dP_count_44 rfl (lv_at hl 0 rfl) ?_
      refine va_get (D := (dC, dI)) (ci := 1) (v := .int (nI P.rows)) (C := RP) (T := FP) (N := 12) hx hb hta iP hown hK hP 0 rfl rfl 7 (by decide) (hta _ m_70) (fun _ h9 => h9) rfl dP_count_45 ?_
      exact W.iret (v := nI P.rows) hx hb hr (fun t ht hW => ⟨congrArg (fun z => Outcome.returned (some (.int z))) (by rw [ctP, q1]; rfl), ht⟩) (fun q h => nomatch h) dP_count_48
    · refine lv_tableIn (tgt := 49) (off := 48) hx hb dP_count_1 (by rw [q1]; decide) (by rw [q1]; decide) (by rw [q1]; decide) (by decide) ?_
      refine lv_aload_n hx hb dP_count_49 rfl (lv_at hl 0 rfl) ?_
      refine va_get (D := (dC, dI)) (ci := 1) (v := .ref (ad 0)) (C := RP) (T := FP) (N := 12) hx hb hta iP hown hK hP 0 rfl rfl 6 (by decide) (hta _ m_69) (fun _ h9 => h9) rfl dP_count_50 ?_
      refine va_getN (D := (dC, dI)) (ci := 0) (v := .int (nI T.h)) (C := RT) (T := FT) (N := 8) hx hb hta iT hown hK hP 6 rfl rfl 6 (by decide) (va_Nw.use rfl (hX _ nw_3)) (fun _ h9 => h9) rfl dP_count_53 ?_
      exact W.iret (v := nI T.h) hx hb hr (fun t ht hW => ⟨congrArg (fun z => Outcome.returned (some (.int z))) (by rw [ctP, q1]; rfl), ht⟩) (fun q h => nomatch h) dP_count_56
    · refine lv_tableIn (tgt := 57) (off := 56) hx hb dP_count_1 (by rw [q1]; decide) (by rw [q1]; decide) (by rw [q1]; decide) (by decide) ?_
      refine lv_aload_n hx hb dP_count_57 rfl (lv_at hl 0 rfl) ?_
      refine va_get (D := (dC, dI)) (ci := 1) (v := .ref (ad 0)) (C := RP) (T := FP) (N := 12) hx hb hta iP hown hK hP 0 rfl rfl 6 (by decide) (hta _ m_69) (fun _ h9 => h9) rfl dP_count_58 ?_
      refine va_getN (D := (dC, dI)) (ci := 0) (v := .long T.d) (C := RT) (T := FT) (N := 8) hx hb hta iT hown hK hP 6 rfl rfl 7 (by decide) (va_Nw.use rfl (hX _ nw_4)) (fun _ h9 => h9) rfl dP_count_61 ?_
      refine lv_l2i (v := T.d.toInt32) hx hb dP_count_64 rfl ?_
      exact W.iret (v := T.d.toInt32) hx hb hr (fun t ht hW => ⟨congrArg (fun z => Outcome.returned (some (.int z))) (by rw [ctP, q1]; rfl), ht⟩) (fun q h => nomatch h) dP_count_65
    · refine lv_tableIn (tgt := 66) (off := 65) hx hb dP_count_1 (by rw [q1]; decide) (by rw [q1]; decide) (by rw [q1]; decide) (by decide) ?_
      refine lv_aload_n hx hb dP_count_66 rfl (lv_at hl 0 rfl) ?_
      refine va_get (D := (dC, dI)) (ci := 1) (v := .int P.wk) (C := RP) (T := FP) (N := 12) hx hb hta iP hown hK hP 0 rfl rfl 0 (by decide) (hta _ m_63) (fun _ h9 => h9) rfl dP_count_67 ?_
      exact W.iret (v := P.wk) hx hb hr (fun t ht hW => ⟨congrArg (fun z => Outcome.returned (some (.int z))) (by rw [ctP, q1]; rfl), ht⟩) (fun q h => nomatch h) dP_count_70
