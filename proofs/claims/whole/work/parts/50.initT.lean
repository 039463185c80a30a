def ad6 (a b c d e f : Nat) : Nat → Nat := fun i => match i with
  | 0 => a
  | 1 => b
  | 2 => c
  | 3 => d
  | 4 => e
  | _ => f
def k6 (b c d e f : ClassId) : Nat → ClassId := fun i => match i with
  | 1 => b
  | 2 => c
  | 3 => d
  | 4 => e
  | _ => f
def T0 : TS := ts (fun _ => 0) (fun _ => 0) (fun _ => 0) (fun _ => 0) (fun _ => 0) 0 0 1
set_option maxHeartbeats 4000000 in
set_option maxRecDepth 100000 in
theorem c_T_init (l : Launch) (dC : Nat → ClassId) (dI : Nat → Nat → Nat) (h0 sz : Nat) : Met l yT_init wT_init ({ frames := 1, cells := 5, slots := 401, locals := 12 }) (wPc [.ref h0] sz (dC, dI) vwCl [(h0, .inr (0, [.null, .null, .null, .null, .null, .int 0, .int 0, .long 0]))] [] xT) (va_Qv (fun u : (Nat → Nat) × (Nat → ClassId) => u.1 0 = h0) (fun u t => va_P (dC, dI) vwCl (TW u.1 u.2 T0) t.heap ∧ va_K (dC, dI) vwCl (TK u.2) t ∧ va_D (va_A [(h0, .inr (0, [.null, .null, .null, .null, .null, .int 0, .int 0, .long 0]))] sz) (TW u.1 u.2 T0)) (va_A [(h0, .inr (0, [.null, .null, .null, .null, .null, .int 0, .int 0, .long 0]))] sz)) 5 401 (va_A [(h0, .inr (0, [.null, .null, .null, .null, .null, .int 0, .int 0, .long 0]))] sz) := by
  refine Met.ofW (cc := bT_init) (maxL := 1) (ret := none) (by decide) rfl ?_
  intro p e s m args below meth c s₁ B hml hv
  obtain ⟨rfl, hsz, hP, hK, hD0, hX⟩ := hv
  have hx := B.exec
  have hb := B.bytes
  have hr := B.returns
  have hts := atoms_spec (ws := wT_init) B.pre
  have hta : ∀ w ∈ AW, w.before _ s = true := fun w h => hts w (List.mem_cons_of_mem _ h)
  have hown : s.vm.findClass RT = some m.cls := findClass_of_methodNamed B.named
  have hlocks := B.notSynchronized
  have hin : meth.name = "<init>" := (name_of_methodNamed B.named B.method).1
  subst hsz
  have hD := hD0.self (sz := s.heap.size)
  generalize hAe : va_A [(h0, .inr (0, [.null, .null, .null, .null, .null, .int 0, .int 0, .long 0]))] s.heap.size = A at hD ⊢
  have hA : ∀ q : Nat, s.heap.size ≤ q → A q := fun q h => by rw [← hAe]; exact Or.inr h
  have hS : va_S A s.heap s.heap [] := va_S.rf
  have hl := lv_entry ([.ref h0]) (n := 1) (Nat.le_of_ble_eq_true rfl)
  rw [lg_entry_eq]
  generalize (lg_sl ([.ref h0]) ++ List.replicate (1 - (lg_sl ([.ref h0])).length) Slot.unset).toArray = ls at hl ⊢
  have hl : lv_has ls 1 [(0, .ref h0)] := hl
  refine lv_aload_n hx hb dT_init_0 rfl (lv_at hl 0 rfl) ?_
  refine W.objInit hx hb hown (hta _ m_25) (hta _ m_18) (hta _ m_19) rfl (by rw [hml]; exact hl.1) rfl dT_init_1 (Nat.le_of_ble_eq_true rfl) (Nat.le_of_ble_eq_true rfl) ?_
  refine W.eq (g2 := F0 m 4 ls []) rfl ?_
  refine lv_aload_n hx hb dT_init_4 rfl (lv_at hl 0 rfl) ?_
  refine lv_sipush (v := nI 325) hx hb dT_init_5 (by decide) ?_
  refine va_newa (atype := .long) hx hb (hta _ m_56) (ty := .long) rfl hK hP hD hS hA (a0 := (325, .inr (.inl (fun _ => 0)))) (N' := 325) (fun _ => rfl) (by decide) (by decide) (by decide) (Nat.le_of_ble_eq_true rfl) (Nat.le_of_ble_eq_true rfl) dT_init_8 (fun q1 k1 H hK hP hD hS => ?_)
  have hP : va_P (dC, dI) vwCl [(h0, .inr (0, [.null, .null, .null, .null, .null, .int 0, .int 0, .long 0])), (q1, .inl (k1, 325, .inr (.inl (fun _ => 0))))] H := hP
  have hD : va_D A [(h0, .inr (0, [.null, .null, .null, .null, .null, .int 0, .int 0, .long 0])), (q1, .inl (k1, 325, .inr (.inl (fun _ => 0))))] := hD
  have hK : va_K (dC, dI) vwCl [(k1, .long)] s := hK
  refine W.widen (k := 1) (n := 325) (Nat.le_of_ble_eq_true rfl) (Nat.le_of_ble_eq_true rfl) ?_
  refine va_putF (D := (dC, dI)) (ci := 0) (v := .ref q1) (ty := .array .long) (C := RT) (T := FT) (N := 8) hx hb hta iT tT tT_ok nT hown hK hP hD hS 0 rfl rfl 0 (by decide) (hta _ m_26) (fun _ h9 => h9) rfl hin rfl (by decide +kernel) rfl rfl (Nat.le_of_ble_eq_true rfl) dT_init_10 (fun H locs hP hD hS => ?_)
  have hP : va_P (dC, dI) vwCl [(h0, .inr (0, [.ref q1, .null, .null, .null, .null, .int 0, .int 0, .long 0])), (q1, .inl (k1, 325, .inr (.inl (fun _ => 0))))] H := hP
  have hD : va_D A [(h0, .inr (0, [.ref q1, .null, .null, .null, .null, .int 0, .int 0, .long 0])), (q1, .inl (k1, 325, .inr (.inl (fun _ => 0))))] := hD
  refine lv_aload_n hx hb dT_init_13 rfl (lv_at hl 0 rfl) ?_
  refine lv_bipush (v := nI 25) hx hb dT_init_14 (by decide) ?_
  refine va_newa (atype := .int) hx hb (hta _ m_55) (ty := .int) rfl hK hP hD hS hA (a0 := (25, .inl (fun _ => 0))) (N' := 25) (fun _ => rfl) (by decide) (by decide) (by decide) (Nat.le_of_ble_eq_true rfl) (Nat.le_of_ble_eq_true rfl) dT_init_16 (fun q2 k2 H hK hP hD hS => ?_)
  have hP : va_P (dC, dI) vwCl [(h0, .inr (0, [.ref q1, .null, .null, .null, .null, .int 0, .int 0, .long 0])), (q1, .inl (k1, 325, .inr (.inl (fun _ => 0)))), (q2, .inl (k2, 25, .inl (fun _ => 0)))] H := hP
  have hD : va_D A [(h0, .inr (0, [.ref q1, .null, .null, .null, .null, .int 0, .int 0, .long 0])), (q1, .inl (k1, 325, .inr (.inl (fun _ => 0)))), (q2, .inl (k2, 25, .inl (fun _ => 0)))] := hD
  have hK : va_K (dC, dI) vwCl [(k1, .long), (k2, .int)] s := hK
  refine W.widen (k := 2) (n := 350) (Nat.le_of_ble_eq_true rfl) (Nat.le_of_ble_eq_true rfl) ?_
  refine va_putF (D := (dC, dI)) (ci := 0) (v := .ref q2) (ty := .array .int) (C := RT) (T := FT) (N := 8) hx hb hta iT tT tT_ok nT hown hK hP hD hS 0 rfl rfl 1 (by decide) (hta _ m_27) (fun _ h9 => h9) rfl hin rfl (by decide +kernel) rfl rfl (Nat.le_of_ble_eq_true rfl) dT_init_18 (fun H locs hP hD hS => ?_)
  have hP : va_P (dC, dI) vwCl [(h0, .inr (0, [.ref q1, .ref q2, .null, .null, .null, .int 0, .int 0, .long 0])), (q1, .inl (k1, 325, .inr (.inl (fun _ => 0)))), (q2, .inl (k2, 25, .inl (fun _ => 0)))] H := hP
  have hD : va_D A [(h0, .inr (0, [.ref q1, .ref q2, .null, .null, .null, .int 0, .int 0, .long 0])), (q1, .inl (k1, 325, .inr (.inl (fun _ => 0)))), (q2, .inl (k2, 25, .inl (fun _ => 0)))] := hD
  refine lv_aload_n hx hb dT_init_21 rfl (lv_at hl 0 rfl) ?_
  refine lv_bipush (v := nI 13) hx hb dT_init_22 (by decide) ?_
  refine va_newa (atype := .int) hx hb (hta _ m_55) (ty := .int) rfl hK hP hD hS hA (a0 := (13, .inl (fun _ => 0))) (N' := 13) (fun _ => rfl) (by decide) (by decide) (by decide) (Nat.le_of_ble_eq_true rfl) (Nat.le_of_ble_eq_true rfl) dT_init_24 (fun q3 k3 H hK hP hD hS => ?_)
  have hP : va_P (dC, dI) vwCl [(h0, .inr (0, [.ref q1, .ref q2, .null, .null, .null, .int 0, .int 0, .long 0])), (q1, .inl (k1, 325, .inr (.inl (fun _ => 0)))), (q2, .inl (k2, 25, .inl (fun _ => 0))), (q3, .inl (k3, 13, .inl (fun _ => 0)))] H := hP
  have hD : va_D A [(h0, .inr (0, [.ref q1, .ref q2, .null, .null, .null, .int 0, .int 0, .long 0])), (q1, .inl (k1, 325, .inr (.inl (fun _ => 0)))), (q2, .inl (k2, 25, .inl (fun _ => 0))), (q3, .inl (k3, 13, .inl (fun _ => 0)))] := hD
  have hK : va_K (dC, dI) vwCl [(k1, .long), (k2, .int), (k3, .int)] s := hK
  refine W.widen (k := 3) (n := 363) (Nat.le_of_ble_eq_true rfl) (Nat.le_of_ble_eq_true rfl) ?_
  refine va_putF (D := (dC, dI)) (ci := 0) (v := .ref q3) (ty := .array .int) (C := RT) (T := FT) (N := 8) hx hb hta iT tT tT_ok nT hown hK hP hD hS 0 rfl rfl 2 (by decide) (hta _ m_29) (fun _ h9 => h9) rfl hin rfl (by decide +kernel) rfl rfl (Nat.le_of_ble_eq_true rfl) dT_init_26 (fun H locs hP hD hS => ?_)
  have hP : va_P (dC, dI) vwCl [(h0, .inr (0, [.ref q1, .ref q2, .ref q3, .null, .null, .int 0, .int 0, .long 0])), (q1, .inl (k1, 325, .inr (.inl (fun _ => 0)))), (q2, .inl (k2, 25, .inl (fun _ => 0))), (q3, .inl (k3, 13, .inl (fun _ => 0)))] H := hP
  have hD : va_D A [(h0, .inr (0, [.ref q1, .ref q2, .ref q3, .null, .null, .int 0, .int 0, .long 0])), (q1, .inl (k1, 325, .inr (.inl (fun _ => 0)))), (q2, .inl (k2, 25, .inl (fun _ => 0))), (q3, .inl (k3, 13, .inl (fun _ => 0)))] := hD
  refine lv_aload_n hx hb dT_init_29 rfl (lv_at hl 0 rfl) ?_
  refine lv_bipush (v := nI 13) hx hb dT_init_30 (by decide) ?_
  refine va_newa (atype := .long) hx hb (hta _ m_56) (ty := .long) rfl hK hP hD hS hA (a0 := (13, .inr (.inl (fun _ => 0)))) (N' := 13) (fun _ => rfl) (by decide) (by decide) (by decide) (Nat.le_of_ble_eq_true rfl) (Nat.le_of_ble_eq_true rfl) dT_init_32 (fun q4 k4 H hK hP hD hS => ?_)
  have hP : va_P (dC, dI) vwCl [(h0, .inr (0, [.ref q1, .ref q2, .ref q3, .null, .null, .int 0, .int 0, .long 0])), (q1, .inl (k1, 325, .inr (.inl (fun _ => 0)))), (q2, .inl (k2, 25, .inl (fun _ => 0))), (q3, .inl (k3, 13, .inl (fun _ => 0))), (q4, .inl (k4, 13, .inr (.inl (fun _ => 0))))] H := hP
  have hD : va_D A [(h0, .inr (0, [.ref q1, .ref q2, .ref q3, .null, .null, .int 0, .int 0, .long 0])), (q1, .inl (k1, 325, .inr (.inl (fun _ => 0)))), (q2, .inl (k2, 25, .inl (fun _ => 0))), (q3, .inl (k3, 13, .inl (fun _ => 0))), (q4, .inl (k4, 13, .inr (.inl (fun _ => 0))))] := hD
  have hK : va_K (dC, dI) vwCl [(k1, .long), (k2, .int), (k3, .int), (k4, .long)] s := hK
  refine W.widen (k := 4) (n := 376) (Nat.le_of_ble_eq_true rfl) (Nat.le_of_ble_eq_true rfl) ?_
  refine va_putF (D := (dC, dI)) (ci := 0) (v := .ref q4) (ty := .array .long) (C := RT) (T := FT) (N := 8) hx hb hta iT tT tT_ok nT hown hK hP hD hS 0 rfl rfl 3 (by decide) (hta _ m_30) (fun _ h9 => h9) rfl hin rfl (by decide +kernel) rfl rfl (Nat.le_of_ble_eq_true rfl) dT_init_34 (fun H locs hP hD hS => ?_)
  have hP : va_P (dC, dI) vwCl [(h0, .inr (0, [.ref q1, .ref q2, .ref q3, .ref q4, .null, .int 0, .int 0, .long 0])), (q1, .inl (k1, 325, .inr (.inl (fun _ => 0)))), (q2, .inl (k2, 25, .inl (fun _ => 0))), (q3, .inl (k3, 13, .inl (fun _ => 0))), (q4, .inl (k4, 13, .inr (.inl (fun _ => 0))))] H := hP
  have hD : va_D A [(h0, .inr (0, [.ref q1, .ref q2, .ref q3, .ref q4, .null, .int 0, .int 0, .long 0])), (q1, .inl (k1, 325, .inr (.inl (fun _ => 0)))), (q2, .inl (k2, 25, .inl (fun _ => 0))), (q3, .inl (k3, 13, .inl (fun _ => 0))), (q4, .inl (k4, 13, .inr (.inl (fun _ => 0))))] := hD
  refine lv_aload_n hx hb dT_init_37 rfl (lv_at hl 0 rfl) ?_
  refine lv_bipush (v := nI 25) hx hb dT_init_38 (by decide) ?_
  refine va_newa (atype := .long) hx hb (hta _ m_56) (ty := .long) rfl hK hP hD hS hA (a0 := (25, .inr (.inl (fun _ => 0)))) (N' := 25) (fun _ => rfl) (by decide) (by decide) (by decide) (Nat.le_of_ble_eq_true rfl) (Nat.le_of_ble_eq_true rfl) dT_init_40 (fun q5 k5 H hK hP hD hS => ?_)
  have hP : va_P (dC, dI) vwCl [(h0, .inr (0, [.ref q1, .ref q2, .ref q3, .ref q4, .null, .int 0, .int 0, .long 0])), (q1, .inl (k1, 325, .inr (.inl (fun _ => 0)))), (q2, .inl (k2, 25, .inl (fun _ => 0))), (q3, .inl (k3, 13, .inl (fun _ => 0))), (q4, .inl (k4, 13, .inr (.inl (fun _ => 0)))), (q5, .inl (k5, 25, .inr (.inl (fun _ => 0))))] H := hP
  have hD : va_D A [(h0, .inr (0, [.ref q1, .ref q2, .ref q3, .ref q4, .null, .int 0, .int 0, .long 0])), (q1, .inl (k1, 325, .inr (.inl (fun _ => 0)))), (q2, .inl (k2, 25, .inl (fun _ => 0))), (q3, .inl (k3, 13, .inl (fun _ => 0))), (q4, .inl (k4, 13, .inr (.inl (fun _ => 0)))), (q5, .inl (k5, 25, .inr (.inl (fun _ => 0))))] := hD
  have hK : va_K (dC, dI) vwCl [(k1, .long), (k2, .int), (k3, .int), (k4, .long), (k5, .long)] s := hK
  refine W.widen (k := 5) (n := 401) (Nat.le_of_ble_eq_true rfl) (Nat.le_of_ble_eq_true rfl) ?_
  refine va_putF (D := (dC, dI)) (ci := 0) (v := .ref q5) (ty := .array .long) (C := RT) (T := FT) (N := 8) hx hb hta iT tT tT_ok nT hown hK hP hD hS 0 rfl rfl 4 (by decide) (hta _ m_31) (fun _ h9 => h9) rfl hin rfl (by decide +kernel) rfl rfl (Nat.le_of_ble_eq_true rfl) dT_init_42 (fun H locs hP hD hS => ?_)
  have hP : va_P (dC, dI) vwCl [(h0, .inr (0, [.ref q1, .ref q2, .ref q3, .ref q4, .ref q5, .int 0, .int 0, .long 0])), (q1, .inl (k1, 325, .inr (.inl (fun _ => 0)))), (q2, .inl (k2, 25, .inl (fun _ => 0))), (q3, .inl (k3, 13, .inl (fun _ => 0))), (q4, .inl (k4, 13, .inr (.inl (fun _ => 0)))), (q5, .inl (k5, 25, .inr (.inl (fun _ => 0))))] H := hP
  have hD : va_D A [(h0, .inr (0, [.ref q1, .ref q2, .ref q3, .ref q4, .ref q5, .int 0, .int 0, .long 0])), (q1, .inl (k1, 325, .inr (.inl (fun _ => 0)))), (q2, .inl (k2, 25, .inl (fun _ => 0))), (q3, .inl (k3, 13, .inl (fun _ => 0))), (q4, .inl (k4, 13, .inr (.inl (fun _ => 0)))), (q5, .inl (k5, 25, .inr (.inl (fun _ => 0))))] := hD
  refine lv_aload_n hx hb dT_init_45 rfl (lv_at hl 0 rfl) ?_
  refine lv_iconst (v := nI 0) hx hb dT_init_46 (by decide) ?_
  refine va_put (D := (dC, dI)) (ci := 0) (v := .int (nI 0)) (ty := .int) (C := RT) (T := FT) (N := 8) hx hb hta iT tT tT_ok nT hown hK hP hD hS 0 rfl rfl 5 (by decide) (hta _ m_32) (fun _ h9 => h9) rfl (by decide +kernel) rfl rfl (Nat.le_of_ble_eq_true rfl) dT_init_47 (fun H locs hP hD hS => ?_)
  have hP : va_P (dC, dI) vwCl [(h0, .inr (0, [.ref q1, .ref q2, .ref q3, .ref q4, .ref q5, .int (nI 0), .int 0, .long 0])), (q1, .inl (k1, 325, .inr (.inl (fun _ => 0)))), (q2, .inl (k2, 25, .inl (fun _ => 0))), (q3, .inl (k3, 13, .inl (fun _ => 0))), (q4, .inl (k4, 13, .inr (.inl (fun _ => 0)))), (q5, .inl (k5, 25, .inr (.inl (fun _ => 0))))] H := hP
  have hD : va_D A [(h0, .inr (0, [.ref q1, .ref q2, .ref q3, .ref q4, .ref q5, .int (nI 0), .int 0, .long 0])), (q1, .inl (k1, 325, .inr (.inl (fun _ => 0)))), (q2, .inl (k2, 25, .inl (fun _ => 0))), (q3, .inl (k3, 13, .inl (fun _ => 0))), (q4, .inl (k4, 13, .inr (.inl (fun _ => 0)))), (q5, .inl (k5, 25, .inr (.inl (fun _ => 0))))] := hD
  refine lv_aload_n hx hb dT_init_50 rfl (lv_at hl 0 rfl) ?_
  refine lv_iconst (v := nI 0) hx hb dT_init_51 (by decide) ?_
  refine va_put (D := (dC, dI)) (ci := 0) (v := .int (nI 0)) (ty := .int) (C := RT) (T := FT) (N := 8) hx hb hta iT tT tT_ok nT hown hK hP hD hS 0 rfl rfl 6 (by decide) (hta _ m_34) (fun _ h9 => h9) rfl (by decide +kernel) rfl rfl (Nat.le_of_ble_eq_true rfl) dT_init_52 (fun H locs hP hD hS => ?_)
  have hP : va_P (dC, dI) vwCl [(h0, .inr (0, [.ref q1, .ref q2, .ref q3, .ref q4, .ref q5, .int (nI 0), .int (nI 0), .long 0])), (q1, .inl (k1, 325, .inr (.inl (fun _ => 0)))), (q2, .inl (k2, 25, .inl (fun _ => 0))), (q3, .inl (k3, 13, .inl (fun _ => 0))), (q4, .inl (k4, 13, .inr (.inl (fun _ => 0)))), (q5, .inl (k5, 25, .inr (.inl (fun _ => 0))))] H := hP
  have hD : va_D A [(h0, .inr (0, [.ref q1, .ref q2, .ref q3, .ref q4, .ref q5, .int (nI 0), .int (nI 0), .long 0])), (q1, .inl (k1, 325, .inr (.inl (fun _ => 0)))), (q2, .inl (k2, 25, .inl (fun _ => 0))), (q3, .inl (k3, 13, .inl (fun _ => 0))), (q4, .inl (k4, 13, .inr (.inl (fun _ => 0)))), (q5, .inl (k5, 25, .inr (.inl (fun _ => 0))))] := hD
  refine lv_aload_n hx hb dT_init_55 rfl (lv_at hl 0 rfl) ?_
  refine lv_lconst (v := 1) hx hb dT_init_56 (by decide) ?_
  refine va_put (D := (dC, dI)) (ci := 0) (v := .long 1) (ty := .long) (C := RT) (T := FT) (N := 8) hx hb hta iT tT tT_ok nT hown hK hP hD hS 0 rfl rfl 7 (by decide) (hta _ m_36) (fun _ h9 => h9) rfl (by decide +kernel) rfl rfl (Nat.le_of_ble_eq_true rfl) dT_init_57 (fun H locs hP hD hS => ?_)
  have hP : va_P (dC, dI) vwCl [(h0, .inr (0, [.ref q1, .ref q2, .ref q3, .ref q4, .ref q5, .int (nI 0), .int (nI 0), .long 1])), (q1, .inl (k1, 325, .inr (.inl (fun _ => 0)))), (q2, .inl (k2, 25, .inl (fun _ => 0))), (q3, .inl (k3, 13, .inl (fun _ => 0))), (q4, .inl (k4, 13, .inr (.inl (fun _ => 0)))), (q5, .inl (k5, 25, .inr (.inl (fun _ => 0))))] H := hP
  have hD : va_D A [(h0, .inr (0, [.ref q1, .ref q2, .ref q3, .ref q4, .ref q5, .int (nI 0), .int (nI 0), .long 1])), (q1, .inl (k1, 325, .inr (.inl (fun _ => 0)))), (q2, .inl (k2, 25, .inl (fun _ => 0))), (q3, .inl (k3, 13, .inl (fun _ => 0))), (q4, .inl (k4, 13, .inr (.inl (fun _ => 0)))), (q5, .inl (k5, 25, .inr (.inl (fun _ => 0))))] := hD
  exact W.vret hx hb hr (fun t ht hW => ⟨⟨(ad6 h0 q1 q2 q3 q4 q5, k6 k1 k2 k3 k4 k5), rfl, rfl, by rw [ht]; exact hP, va_K.moved hW.alike hK, hD⟩, hS.F ht⟩) hS.2.2 dT_init_60
