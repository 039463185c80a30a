/-! what the start gives: the links between nest mates, the texts, the words of throws, Throwable's statics -/
theorem start_facts {s : State} {b : Nat} (hts : ∀ w ∈ lw_tbl, w.before #[Value.ref b] s = true) (hgv : (Jvm.Cond.and given_1 narrow_1).before #[Value.ref b] s = true) : nW s ∧ sW s ∧ zA s := by
  have hs := flat_of_before _ hgv
  have hn : ∀ w ∈ nestL, w ∈ lw_tbl := by decide +kernel
  have hb : ∀ w ∈ tB, w ∈ lw_tbl := by decide +kernel
  have h1 : nestL.all (fun w => w.onTables) = true := by decide +kernel
  have hst : ∀ q ∈ strL, Cond.stringRef RP q.1 q.2 ∈ lw_tbl := by decide +kernel
  have hex : ∀ q ∈ strL, Cond.exactly (.string RP q.1) "java/lang/String" ∈ flatC (Jvm.Cond.and given_1 narrow_1) := by decide +kernel
  have hnc : ∀ q ∈ ncL, Cond.not (.castable q.1 q.2) ∈ flatC (Jvm.Cond.and given_1 narrow_1) := by decide +kernel
  refine ⟨fun w hw => va_Nw.of (List.all_eq_true.mp h1 w hw) (hts w (hn w hw)), ⟨fun q hq => ?_, fun w hw => va_Nw.of (tB_on hw) (hts w (hb w hw)), fun q hq => va_Nc.of (hs _ (hnc q hq))⟩, ?_, ?_⟩
  · obtain ⟨a, -, -, -, ha, -⟩ := Cond.exactly_spec (hs _ (hex q hq))
    exact ⟨a, vk_R.of (hts _ (hst q hq)) ha⟩
  · exact vx_Zqof (hts _ (by decide +kernel)) (hts _ (by decide +kernel)) (hs _ (by decide +kernel)) (fun a h => Nat.not_le.mpr h)
  · exact vx_Zqof (hts _ (by decide +kernel)) (hts _ (by decide +kernel)) (hs _ (by decide +kernel)) (fun a h => Nat.not_le.mpr h)
set_option maxHeartbeats 4000000 in
set_option maxRecDepth 100000 in
theorem whole_start {p : Program} {e : Env} {s : State} {m : MethodId} {below : List Frame} {meth : Method} {c : Code} (l : Launch) (hlt : l.stackTraces = false) {b L : Nat} {xs : Nat → Int32} (hL : L ≤ 2561) (C0 : lw_At p s m meth c b L xs) : W p l e room_1 s m #[Value.ref b] below meth c s.heap [] 0 0 (lw_Z below #[Value.ref b] s) (entryFrame m ([Value.ref b] : List Value).toArray 8) := by
  obtain ⟨hx, hb, hr, hml, hown, hts, hX0, hbl, hlocks, hgv⟩ := id C0
  have hown : s.vm.findClass RL = some m.cls := hown
  have hta : ∀ w ∈ AW, w.before #[Value.ref b] s = true := fun w h => hts w (AW_in h)
  have hA : ∀ q : Nat, s.heap.size ≤ q → (fun q : Nat => s.heap.size ≤ q) q := fun _ h => h
  have hbA : ¬ (fun q : Nat => s.heap.size ≤ q) b := Nat.not_le.mpr hbl
  obtain ⟨hX, hss, hzA⟩ := start_facts hts hgv
  obtain ⟨c0, iS0, hKn0⟩ := u_known (C := RT) (T := FT) (N := 8) (n := 8) hta iT (hta _ m_21)
  obtain ⟨c1, iS1, hKn1⟩ := u_known (C := RP) (T := FP) (N := 12) (n := 12) hta iP (hta _ m_13)
  obtain ⟨c2, iS2, hKn2⟩ := u_known (C := RM) (T := FM) (N := 19) (n := 19) hta iM (hta _ m_487)
  obtain ⟨dC, dI, hKc⟩ : ∃ (dC : Nat → ClassId) (dI : Nat → Nat → Nat), ∀ (k : Nat) (q : vw_C), vwCl[k]? = some q → u_Kn s q.1 q.2.1 q.2.2 (dC k) (dI k) := by
    refine ⟨fun k => if k = 0 then c0 else if k = 1 then c1 else c2, fun k => if k = 0 then iS0 else if k = 1 then iS1 else iS2, ?_⟩
    intro k q hq
    match k, hq with
    | 0, hq => cases hq; exact hKn0
    | 1, hq => cases hq; exact hKn1
    | 2, hq => cases hq; exact hKn2
    | k + 3, hq => simp [vwCl] at hq
  have hS : va_S (fun q : Nat => s.heap.size ≤ q) s.heap s.heap [] := va_S.rf
  have hK : va_K (dC, dI) vwCl [] s := ⟨hKc, fun k q h => by simp at h⟩
  have hP : va_P (dC, dI) vwCl [] s.heap := fun k q h => by simp at h
  have hD : va_D (fun q : Nat => s.heap.size ≤ q) [] := ⟨fun i j p q h => by simp at h, fun k q h => by simp at h⟩
  have hl := lv_entry ([.ref b]) (n := 8) (Nat.le_of_ble_eq_true rfl)
  rw [lg_entry_eq]
  generalize (lg_sl ([.ref b]) ++ List.replicate (8 - (lg_sl ([.ref b])).length) Slot.unset).toArray = ls at hl ⊢
  have hl : lv_has ls 8 [(0, .ref b)] := hl
  refine va_new (ci := 1) (fs := [.int 0, .null, .null, .null, .null, .null, .null, .int 0, .int 0, .int 0, .int 0, .int 0]) (C := RP) (T := FP) (N := 12) hx hb hta iP tP tP_ok hown (hta _ m_12) (hta _ m_13) (hta _ m_1) hK hP hD hS hA rfl (fun j hj => by rcases (show j = 0 ∨ j = 1 ∨ j = 2 ∨ j = 3 ∨ j = 4 ∨ j = 5 ∨ j = 6 ∨ j = 7 ∨ j = 8 ∨ j = 9 ∨ j = 10 ∨ j = 11 by omega) with rfl | rfl | rfl | rfl | rfl | rfl | rfl | rfl | rfl | rfl | rfl | rfl <;> rfl) (Nat.le_of_ble_eq_true rfl) (Nat.le_of_ble_eq_true rfl) dL_law_0 (fun qp H hP hD hS => ?_)
  have hP : va_P (dC, dI) vwCl [(qp, .inr (1, [.int 0, .null, .null, .null, .null, .null, .null, .int 0, .int 0, .int 0, .int 0, .int 0]))] H := hP
  have hD : va_D (fun q : Nat => s.heap.size ≤ q) [(qp, .inr (1, [.int 0, .null, .null, .null, .null, .null, .null, .int 0, .int 0, .int 0, .int 0, .int 0]))] := hD
  refine W.widen (k := 1) (n := 12) (by omega) (by omega) ?_
  refine lv_dup hx hb dL_law_3 rfl ?_
  refine lv_aload_n hx hb dL_law_4 rfl (lv_at hl 0 rfl) ?_
  refine lv_iconst (v := nI 0) hx hb dL_law_5 (by decide) ?_
  refine rd_call (va_runS (As := [.ref b, .int (nI 0)]) (rest := [.ref qp, .ref qp]) ⟨hx, hb, hml, hown, hta⟩ (c_L_cell l b L xs (by omega)) (cwS 2 hta (gS m_139 m_140 m_0 m_141) rfl rfl rfl (by decide +kernel) ⟨Nat.le_of_ble_eq_true rfl, Nat.le_of_ble_eq_true rfl⟩) ⟨cX.blind, fun U hU hW => ⟨rfl, by show va_X b L xs U U.heap; rw [hU]; exact va_X.moved hW.alike (hX0.kept (hS.2.1 b hbl hbA))⟩⟩ rfl rfl hl.1 rfl (lv_room (Nat.le_of_ble_eq_true rfl)) dL_law_6 ⟨Nat.le_of_ble_eq_true rfl, Nat.le_of_ble_eq_true rfl⟩) ?_
  generalize hxe : c0V L xs = x
  refine W.eq (g2 := F0 m 9 ls [.int x, .ref qp, .ref qp]) rfl ?_
  have hFc := va_free (wc := [(qp, .inr (1, [.int 0, .null, .null, .null, .null, .null, .null, .int 0, .int 0, .int 0, .int 0, .int 0]))]) hD hS hA [0] rfl
  refine va_callv (va_runI (As := [.int x]) (rest := [.ref qp]) ⟨hx, hb, hml, hown, hta⟩ (c_P_init l dC dI qp H.size x) (cwI 1 hta (gC m_16) rfl rfl rfl (hta _ m_1) (hta _ m_14) (hta _ m_15) rfl (by decide +kernel) ⟨Nat.le_of_ble_eq_true rfl, Nat.le_of_ble_eq_true rfl⟩) (wr_S nW_ok hX (hK.sub (tys' := []) [] rfl) (hP.sub (ws' := [(qp, .inr (1, [.int 0, .null, .null, .null, .null, .null, .null, .int 0, .int 0, .int 0, .int 0, .int 0]))]) [0] rfl) (hD.sub (ws' := [(qp, .inr (1, [.int 0, .null, .null, .null, .null, .null, .null, .int 0, .int 0, .int 0, .int 0, .int 0]))]) [0] (by decide) rfl)) rfl rfl hl.1 rfl (lv_room (Nat.le_of_ble_eq_true rfl)) dL_law_9 ⟨Nat.le_of_ble_eq_true rfl, Nat.le_of_ble_eq_true rfl⟩) hS (fun q _ h => hFc q h) hFc (fun u t H1 locs ht hvm hw hB hz1 hk1 hS => ?_)
  obtain ⟨ad, k⟩ := u
  obtain ⟨hP1, hK1, hD1⟩ := hB
  rw [ht] at hP1
  have hK1 := va_K.moved hvm.symm hK1
  have hw : ad 7 = qp := hw
  subst hw
  obtain ⟨hP, hD⟩ := va_join (wr := []) (w1 := PW ad k (P0 x) ++ (FW ad k (fun _ => 0) ++ TW ad k T0)) hP hD [0] [] rfl rfl (by decide) (by decide) hk1 hFc hP1 hD1
  have hK := (hK.sub (tys' := []) [] rfl).app hK1
  generalize H1 = H at hP hS ⊢
  have hP : va_P (dC, dI) vwCl (PW ad k (P0 x) ++ (FW ad k (fun _ => 0) ++ TW ad k T0)) H := hP.sub [0, 1, 2, 3, 4, 5, 6, 7, 8, 9, 10, 11] rfl
  have hD : va_D (fun q : Nat => s.heap.size ≤ q) (PW ad k (P0 x) ++ (FW ad k (fun _ => 0) ++ TW ad k T0)) := hD.sub [0, 1, 2, 3, 4, 5, 6, 7, 8, 9, 10, 11] (by decide) rfl
  have hK : va_K (dC, dI) vwCl (PK k ++ (FK k ++ TK k)) s := hK
  refine W.widen (k := 12) (n := 613) (by omega) (by omega) ?_
  refine lv_astore_n (lv' := [(1, .ref (ad 7)), (0, .ref b)]) hx hb dL_law_12 rfl hl (by decide) rfl (fun ls hl => ?_)
  refine va_new (ci := 2) (fs := [.int 0, .int 0, .int 0, .null, .int 0, .null, .null, .null, .null, .null, .int 0, .int 0, .int 0, .long 0, .null, .null, .null, .null, .int 0]) (C := RM) (T := FM) (N := 19) hx hb hta iM tM tM_ok hown (hta _ m_486) (hta _ m_487) (hta _ m_4) hK hP hD hS hA rfl (fun j hj => by rcases (show j = 0 ∨ j = 1 ∨ j = 2 ∨ j = 3 ∨ j = 4 ∨ j = 5 ∨ j = 6 ∨ j = 7 ∨ j = 8 ∨ j = 9 ∨ j = 10 ∨ j = 11 ∨ j = 12 ∨ j = 13 ∨ j = 14 ∨ j = 15 ∨ j = 16 ∨ j = 17 ∨ j = 18 by omega) with rfl | rfl | rfl | rfl | rfl | rfl | rfl | rfl | rfl | rfl | rfl | rfl | rfl | rfl | rfl | rfl | rfl | rfl | rfl <;> rfl) (Nat.le_of_ble_eq_true rfl) (Nat.le_of_ble_eq_true rfl) dL_law_13 (fun qm H hP hD hS => ?_)
  have hP : va_P (dC, dI) vwCl ((PW ad k (P0 x) ++ (FW ad k (fun _ => 0) ++ TW ad k T0)) ++ [(qm, .inr (2, [.int 0, .int 0, .int 0, .null, .int 0, .null, .null, .null, .null, .null, .int 0, .int 0, .int 0, .long 0, .null, .null, .null, .null, .int 0]))]) H := hP
  have hD : va_D (fun q : Nat => s.heap.size ≤ q) ((PW ad k (P0 x) ++ (FW ad k (fun _ => 0) ++ TW ad k T0)) ++ [(qm, .inr (2, [.int 0, .int 0, .int 0, .null, .int 0, .null, .null, .null, .null, .null, .int 0, .int 0, .int 0, .long 0, .null, .null, .null, .null, .int 0]))]) := hD
  refine W.widen (k := 13) (n := 632) (by omega) (by omega) ?_
  refine lv_dup hx hb dL_law_16 rfl ?_
  refine lv_aload_n hx hb dL_law_17 rfl (lv_at hl 1 rfl) ?_
  refine lv_iconst (v := nI 0) hx hb dL_law_18 (by decide) ?_
  refine rd_call (va_runS (As := [.ref b, .int (nI 0)]) (rest := [.ref qm, .ref qm]) ⟨hx, hb, hml, hown, hta⟩ (c_L_cell l b L xs (by omega)) (cwS 2 hta (gS m_139 m_140 m_0 m_141) rfl rfl rfl (by decide +kernel) ⟨Nat.le_of_ble_eq_true rfl, Nat.le_of_ble_eq_true rfl⟩) ⟨cX.blind, fun U hU hW => ⟨rfl, by show va_X b L xs U U.heap; rw [hU]; exact va_X.moved hW.alike (hX0.kept (hS.2.1 b hbl hbA))⟩⟩ rfl rfl hl.1 rfl (lv_room (Nat.le_of_ble_eq_true rfl)) dL_law_19 ⟨Nat.le_of_ble_eq_true rfl, Nat.le_of_ble_eq_true rfl⟩) ?_
  rw [hxe]
  refine W.eq (g2 := F0 m 22 ls [.int x, .ref qm, .ref qm]) rfl ?_
  have hFc := va_free (wc := [(qm, .inr (2, [.int 0, .int 0, .int 0, .null, .int 0, .null, .null, .null, .null, .null, .int 0, .int 0, .int 0, .long 0, .null, .null, .null, .null, .int 0]))]) hD hS hA [12] rfl
  refine va_callv (va_runI (As := [.int x]) (rest := [.ref qm]) ⟨hx, hb, hml, hown, hta⟩ (c_M_init l dC dI qm H.size x) (cwI 1 hta (gC m_490) rfl rfl rfl (hta _ m_4) (hta _ m_488) (hta _ m_489) rfl (by decide +kernel) ⟨Nat.le_of_ble_eq_true rfl, Nat.le_of_ble_eq_true rfl⟩) (wr_S xT_ok trivial (hK.sub (tys' := []) [] rfl) (hP.sub (ws' := [(qm, .inr (2, [.int 0, .int 0, .int 0, .null, .int 0, .null, .null, .null, .null, .null, .int 0, .int 0, .int 0, .long 0, .null, .null, .null, .null, .int 0]))]) [12] rfl) (hD.sub (ws' := [(qm, .inr (2, [.int 0, .int 0, .int 0, .null, .int 0, .null, .null, .null, .null, .null, .int 0, .int 0, .int 0, .long 0, .null, .null, .null, .null, .int 0]))]) [12] (by decide) rfl)) rfl rfl hl.1 rfl (lv_room (Nat.le_of_ble_eq_true rfl)) dL_law_22 ⟨Nat.le_of_ble_eq_true rfl, Nat.le_of_ble_eq_true rfl⟩) hS (fun q _ h => hFc q h) hFc (fun u t H1 locs ht hvm hw hB hz1 hk1 hS => ?_)
  obtain ⟨mo, km⟩ := u
  obtain ⟨hP1, hK1, hD1⟩ := hB
  rw [ht] at hP1
  have hK1 := va_K.moved hvm.symm hK1
  have hw : mo 0 = qm := hw
  subst hw
  obtain ⟨hP, hD⟩ := va_join (wr := PW ad k (P0 x) ++ (FW ad k (fun _ => 0) ++ TW ad k T0)) (w1 := MW mo km (M0 x)) hP hD [12] [0, 1, 2, 3, 4, 5, 6, 7, 8, 9, 10, 11] rfl rfl (by decide) (by decide) hk1 hFc hP1 hD1
  have hK := hK.app hK1
  generalize H1 = H at hP hS ⊢
  have hP : va_P (dC, dI) vwCl (MW mo km (M0 x) ++ (PW ad k (P0 x) ++ (FW ad k (fun _ => 0) ++ TW ad k T0))) H := hP.sub [12, 13, 14, 15, 16, 17, 18, 19, 20, 21, 22, 0, 1, 2, 3, 4, 5, 6, 7, 8, 9, 10, 11] rfl
  have hD : va_D (fun q : Nat => s.heap.size ≤ q) (MW mo km (M0 x) ++ (PW ad k (P0 x) ++ (FW ad k (fun _ => 0) ++ TW ad k T0))) := hD.sub [12, 13, 14, 15, 16, 17, 18, 19, 20, 21, 22, 0, 1, 2, 3, 4, 5, 6, 7, 8, 9, 10, 11] (by decide) rfl
  have hK : va_K (dC, dI) vwCl (MK km ++ (PK k ++ (FK k ++ TK k))) s := hK.sub [10, 11, 12, 13, 14, 15, 16, 17, 18, 19, 0, 1, 2, 3, 4, 5, 6, 7, 8, 9] rfl
  refine W.widen (k := 23) (n := 1847) (by omega) (by omega) ?_
  refine lv_astore_n (lv' := [(2, .ref (mo 0)), (1, .ref (ad 7)), (0, .ref b)]) hx hb dL_law_25 rfl hl (by decide) rfl (fun ls hl => ?_)
  refine lv_iconst (v := nI 1) hx hb dL_law_26 (by decide) ?_
  refine va_newa (atype := .long) (ty := .long) (a0 := (1, .inr (.inl (fun _ => 0)))) hx hb (hta _ m_56) rfl hK hP hD hS hA (fun cA => rfl) (by decide) rfl (by decide) (Nat.le_of_ble_eq_true rfl) (Nat.le_of_ble_eq_true rfl) dL_law_27 (fun oa ko H hK hP hD hS => ?_)
  have hP : va_P (dC, dI) vwCl (MW mo km (M0 x) ++ (OW oa ko (fun _ => 0) ++ (PW ad k (P0 x) ++ (FW ad k (fun _ => 0) ++ TW ad k T0)))) H := hP.sub [0, 1, 2, 3, 4, 5, 6, 7, 8, 9, 10, 23, 11, 12, 13, 14, 15, 16, 17, 18, 19, 20, 21, 22] rfl
  have hD : va_D (fun q : Nat => s.heap.size ≤ q) (MW mo km (M0 x) ++ (OW oa ko (fun _ => 0) ++ (PW ad k (P0 x) ++ (FW ad k (fun _ => 0) ++ TW ad k T0)))) := hD.sub [0, 1, 2, 3, 4, 5, 6, 7, 8, 9, 10, 23, 11, 12, 13, 14, 15, 16, 17, 18, 19, 20, 21, 22] (by decide) rfl
  have hK : va_K (dC, dI) vwCl (MK km ++ (OQ ko ++ (PK k ++ (FK k ++ TK k)))) s := hK.sub [0, 1, 2, 3, 4, 5, 6, 7, 8, 9, 20, 10, 11, 12, 13, 14, 15, 16, 17, 18, 19] rfl
  refine W.widen (k := 24) (n := 1848) (by omega) (by omega) ?_
  refine lv_astore_n (lv' := [(3, .ref oa), (2, .ref (mo 0)), (1, .ref (ad 7)), (0, .ref b)]) hx hb dL_law_29 rfl hl (by decide) rfl (fun ls hl => ?_)
  refine lv_iconst (v := nI 1) hx hb dL_law_30 (by decide) ?_
  refine lv_istore (lv' := [(4, .int (nI 1)), (3, .ref oa), (2, .ref (mo 0)), (1, .ref (ad 7)), (0, .ref b)]) hx hb dL_law_31 hl (by decide) rfl (fun ls hl => ?_)
  exact law_loop l hlt hL C0 dC dI hX hss hzA ad k oa ko mo km hK 512 0 (P0 x) (fun _ => 0) T0 (M0 x) (fun _ => 0) H locs ls (by omega) (o_init x) hP hD hS (lv_sub hl [0, 4, 3, 2, 1] rfl)
