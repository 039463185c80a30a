def ad12 (t : Nat → Nat) (f p a b c d : Nat) : Nat → Nat := fun i => match i with
  | 0 => t 0
  | 1 => t 1
  | 2 => t 2
  | 3 => t 3
  | 4 => t 4
  | 5 => t 5
  | 6 => f
  | 7 => p
  | 8 => a
  | 9 => b
  | 10 => c
  | _ => d
def k12 (t : Nat → ClassId) (f a b c d : ClassId) : Nat → ClassId := fun i => match i with
  | 1 => t 1
  | 2 => t 2
  | 3 => t 3
  | 4 => t 4
  | 5 => t 5
  | 6 => f
  | 8 => a
  | 9 => b
  | 10 => c
  | _ => d
def wkP (x : Int32) : Int32 := if 1 < (if x < 60 then x else 60) then (if x < 60 then x else 60) else 1
def P0 (x : Int32) : PS := ps (fun _ => 0) (fun _ => 0) (fun _ => 0) (fun _ => 0) (wkP x) 0 0 0 false (-1)
set_option maxHeartbeats 4000000 in
set_option maxRecDepth 100000 in
theorem c_P_init (l : Launch) (dC : Nat → ClassId) (dI : Nat → Nat → Nat) (h0 sz : Nat) (x : Int32) : Met l yP_init wP_init ({ frames := 2, cells := 11, slots := 601, locals := 32 }) (wPc [.ref h0, .int x] sz (dC, dI) vwCl [(h0, .inr (1, [.int 0, .null, .null, .null, .null, .null, .null, .int 0, .int 0, .int 0, .int 0, .int 0]))] [] nW) (va_Qv (fun u : (Nat → Nat) × (Nat → ClassId) => u.1 7 = h0) (fun u t => va_P (dC, dI) vwCl (PW u.1 u.2 (P0 x) ++ (FW u.1 u.2 (fun _ => 0) ++ TW u.1 u.2 T0)) t.heap ∧ va_K (dC, dI) vwCl (PK u.2 ++ (FK u.2 ++ TK u.2)) t ∧ va_D (va_A [(h0, .inr (1, [.int 0, .null, .null, .null, .null, .null, .null, .int 0, .int 0, .int 0, .int 0, .int 0]))] sz) (PW u.1 u.2 (P0 x) ++ (FW u.1 u.2 (fun _ => 0) ++ TW u.1 u.2 T0))) (va_A [(h0, .inr (1, [.int 0, .null, .null, .null, .null, .null, .null, .int 0, .int 0, .int 0, .int 0, .int 0]))] sz)) 11 601 (va_A [(h0, .inr (1, [.int 0, .null, .null, .null, .null, .null, .null, .int 0, .int 0, .int 0, .int 0, .int 0]))] sz) := by
  refine Met.ofW (cc := bP_init) (maxL := 2) (ret := none) (by decide) rfl ?_
  intro p e s m args below meth c s₁ B hml hv
  obtain ⟨rfl, hsz, hP, hK, hD0, hX⟩ := hv
  have hx := B.exec
  have hb := B.bytes
  have hr := B.returns
  have hts := atoms_spec (ws := wP_init) B.pre
  have hta : ∀ w ∈ AW, w.before _ s = true := fun w h => hts w (List.mem_cons_of_mem _ h)
  have hown : s.vm.findClass RP = some m.cls := findClass_of_methodNamed B.named
  have hlocks := B.notSynchronized
  have hin : meth.name = "<init>" := (name_of_methodNamed B.named B.method).1
  subst hsz
  have hD := hD0.self (sz := s.heap.size)
  generalize hAe : va_A [(h0, .inr (1, [.int 0, .null, .null, .null, .null, .null, .null, .int 0, .int 0, .int 0, .int 0, .int 0]))] s.heap.size = A at hD ⊢
  have hA : ∀ q : Nat, s.heap.size ≤ q → A q := fun q h => by rw [← hAe]; exact Or.inr h
  have hS : va_S A s.heap s.heap [] := va_S.rf
  have hl := lv_entry ([.ref h0, .int x]) (n := 2) (Nat.le_of_ble_eq_true rfl)
  rw [lg_entry_eq]
  generalize (lg_sl ([.ref h0, .int x]) ++ List.replicate (2 - (lg_sl ([.ref h0, .int x])).length) Slot.unset).toArray = ls at hl ⊢
  have hl : lv_has ls 2 [(0, .ref h0), (1, .int x)] := hl
  refine lv_aload_n hx hb dP_init_0 rfl (lv_at hl 0 rfl) ?_
  refine W.objInit hx hb hown (hta _ m_17) (hta _ m_18) (hta _ m_19) rfl (by rw [hml]; exact hl.1) rfl dP_init_1 (Nat.le_of_ble_eq_true rfl) (Nat.le_of_ble_eq_true rfl) ?_
  refine W.eq (g2 := F0 m 4 ls []) rfl ?_
  refine lv_aload_n hx hb dP_init_4 rfl (lv_at hl 0 rfl) ?_
  refine lv_bipush (v := nI 12) hx hb dP_init_5 (by decide) ?_
  refine va_newa (atype := .int) hx hb (hta _ m_55) (ty := .int) rfl hK hP hD hS hA (a0 := (12, .inl (fun _ => 0))) (N' := 12) (fun _ => rfl) (by decide) (by decide) (by decide) (Nat.le_of_ble_eq_true rfl) (Nat.le_of_ble_eq_true rfl) dP_init_7 (fun q1 k1 H hK hP hD hS => ?_)
  have hP : va_P (dC, dI) vwCl [(h0, .inr (1, [.int 0, .null, .null, .null, .null, .null, .null, .int 0, .int 0, .int 0, .int 0, .int 0])), (q1, .inl (k1, 12, .inl (fun _ => 0)))] H := hP
  have hD : va_D A [(h0, .inr (1, [.int 0, .null, .null, .null, .null, .null, .null, .int 0, .int 0, .int 0, .int 0, .int 0])), (q1, .inl (k1, 12, .inl (fun _ => 0)))] := hD
  have hK : va_K (dC, dI) vwCl [(k1, .int)] s := hK
  refine W.widen (k := 1) (n := 12) (Nat.le_of_ble_eq_true rfl) (Nat.le_of_ble_eq_true rfl) ?_
  refine va_putF (D := (dC, dI)) (ci := 1) (v := .ref q1) (ty := .array .int) (C := RP) (T := FP) (N := 12) hx hb hta iP tP tP_ok nP hown hK hP hD hS 0 rfl rfl 1 (by decide) (hta _ m_64) (fun _ h9 => h9) rfl hin rfl (by decide +kernel) rfl rfl (Nat.le_of_ble_eq_true rfl) dP_init_9 (fun H locs hP hD hS => ?_)
  have hP : va_P (dC, dI) vwCl [(h0, .inr (1, [.int 0, .ref q1, .null, .null, .null, .null, .null, .int 0, .int 0, .int 0, .int 0, .int 0])), (q1, .inl (k1, 12, .inl (fun _ => 0)))] H := hP
  have hD : va_D A [(h0, .inr (1, [.int 0, .ref q1, .null, .null, .null, .null, .null, .int 0, .int 0, .int 0, .int 0, .int 0])), (q1, .inl (k1, 12, .inl (fun _ => 0)))] := hD
  refine lv_aload_n hx hb dP_init_12 rfl (lv_at hl 0 rfl) ?_
  refine lv_bipush (v := nI 12) hx hb dP_init_13 (by decide) ?_
  refine va_newa (atype := .int) hx hb (hta _ m_55) (ty := .int) rfl hK hP hD hS hA (a0 := (12, .inl (fun _ => 0))) (N' := 12) (fun _ => rfl) (by decide) (by decide) (by decide) (Nat.le_of_ble_eq_true rfl) (Nat.le_of_ble_eq_true rfl) dP_init_15 (fun q2 k2 H hK hP hD hS => ?_)
  have hP : va_P (dC, dI) vwCl [(h0, .inr (1, [.int 0, .ref q1, .null, .null, .null, .null, .null, .int 0, .int 0, .int 0, .int 0, .int 0])), (q1, .inl (k1, 12, .inl (fun _ => 0))), (q2, .inl (k2, 12, .inl (fun _ => 0)))] H := hP
  have hD : va_D A [(h0, .inr (1, [.int 0, .ref q1, .null, .null, .null, .null, .null, .int 0, .int 0, .int 0, .int 0, .int 0])), (q1, .inl (k1, 12, .inl (fun _ => 0))), (q2, .inl (k2, 12, .inl (fun _ => 0)))] := hD
  have hK : va_K (dC, dI) vwCl [(k1, .int), (k2, .int)] s := hK
  refine W.widen (k := 2) (n := 24) (Nat.le_of_ble_eq_true rfl) (Nat.le_of_ble_eq_true rfl) ?_
  refine va_putF (D := (dC, dI)) (ci := 1) (v := .ref q2) (ty := .array .int) (C := RP) (T := FP) (N := 12) hx hb hta iP tP tP_ok nP hown hK hP hD hS 0 rfl rfl 2 (by decide) (hta _ m_65) (fun _ h9 => h9) rfl hin rfl (by decide +kernel) rfl rfl (Nat.le_of_ble_eq_true rfl) dP_init_17 (fun H locs hP hD hS => ?_)
  have hP : va_P (dC, dI) vwCl [(h0, .inr (1, [.int 0, .ref q1, .ref q2, .null, .null, .null, .null, .int 0, .int 0, .int 0, .int 0, .int 0])), (q1, .inl (k1, 12, .inl (fun _ => 0))), (q2, .inl (k2, 12, .inl (fun _ => 0)))] H := hP
  have hD : va_D A [(h0, .inr (1, [.int 0, .ref q1, .ref q2, .null, .null, .null, .null, .int 0, .int 0, .int 0, .int 0, .int 0])), (q1, .inl (k1, 12, .inl (fun _ => 0))), (q2, .inl (k2, 12, .inl (fun _ => 0)))] := hD
  refine lv_aload_n hx hb dP_init_20 rfl (lv_at hl 0 rfl) ?_
  refine lv_bipush (v := nI 12) hx hb dP_init_21 (by decide) ?_
  refine va_newa (atype := .long) hx hb (hta _ m_56) (ty := .long) rfl hK hP hD hS hA (a0 := (12, .inr (.inl (fun _ => 0)))) (N' := 12) (fun _ => rfl) (by decide) (by decide) (by decide) (Nat.le_of_ble_eq_true rfl) (Nat.le_of_ble_eq_true rfl) dP_init_23 (fun q3 k3 H hK hP hD hS => ?_)
  have hP : va_P (dC, dI) vwCl [(h0, .inr (1, [.int 0, .ref q1, .ref q2, .null, .null, .null, .null, .int 0, .int 0, .int 0, .int 0, .int 0])), (q1, .inl (k1, 12, .inl (fun _ => 0))), (q2, .inl (k2, 12, .inl (fun _ => 0))), (q3, .inl (k3, 12, .inr (.inl (fun _ => 0))))] H := hP
  have hD : va_D A [(h0, .inr (1, [.int 0, .ref q1, .ref q2, .null, .null, .null, .null, .int 0, .int 0, .int 0, .int 0, .int 0])), (q1, .inl (k1, 12, .inl (fun _ => 0))), (q2, .inl (k2, 12, .inl (fun _ => 0))), (q3, .inl (k3, 12, .inr (.inl (fun _ => 0))))] := hD
  have hK : va_K (dC, dI) vwCl [(k1, .int), (k2, .int), (k3, .long)] s := hK
  refine W.widen (k := 3) (n := 36) (Nat.le_of_ble_eq_true rfl) (Nat.le_of_ble_eq_true rfl) ?_
  refine va_putF (D := (dC, dI)) (ci := 1) (v := .ref q3) (ty := .array .long) (C := RP) (T := FP) (N := 12) hx hb hta iP tP tP_ok nP hown hK hP hD hS 0 rfl rfl 3 (by decide) (hta _ m_66) (fun _ h9 => h9) rfl hin rfl (by decide +kernel) rfl rfl (Nat.le_of_ble_eq_true rfl) dP_init_25 (fun H locs hP hD hS => ?_)
  have hP : va_P (dC, dI) vwCl [(h0, .inr (1, [.int 0, .ref q1, .ref q2, .ref q3, .null, .null, .null, .int 0, .int 0, .int 0, .int 0, .int 0])), (q1, .inl (k1, 12, .inl (fun _ => 0))), (q2, .inl (k2, 12, .inl (fun _ => 0))), (q3, .inl (k3, 12, .inr (.inl (fun _ => 0))))] H := hP
  have hD : va_D A [(h0, .inr (1, [.int 0, .ref q1, .ref q2, .ref q3, .null, .null, .null, .int 0, .int 0, .int 0, .int 0, .int 0])), (q1, .inl (k1, 12, .inl (fun _ => 0))), (q2, .inl (k2, 12, .inl (fun _ => 0))), (q3, .inl (k3, 12, .inr (.inl (fun _ => 0))))] := hD
  refine lv_aload_n hx hb dP_init_28 rfl (lv_at hl 0 rfl) ?_
  refine lv_sipush (v := nI 144) hx hb dP_init_29 (by decide) ?_
  refine va_newa (atype := .int) hx hb (hta _ m_55) (ty := .int) rfl hK hP hD hS hA (a0 := (144, .inl (fun _ => 0))) (N' := 144) (fun _ => rfl) (by decide) (by decide) (by decide) (Nat.le_of_ble_eq_true rfl) (Nat.le_of_ble_eq_true rfl) dP_init_32 (fun q4 k4 H hK hP hD hS => ?_)
  have hP : va_P (dC, dI) vwCl [(h0, .inr (1, [.int 0, .ref q1, .ref q2, .ref q3, .null, .null, .null, .int 0, .int 0, .int 0, .int 0, .int 0])), (q1, .inl (k1, 12, .inl (fun _ => 0))), (q2, .inl (k2, 12, .inl (fun _ => 0))), (q3, .inl (k3, 12, .inr (.inl (fun _ => 0)))), (q4, .inl (k4, 144, .inl (fun _ => 0)))] H := hP
  have hD : va_D A [(h0, .inr (1, [.int 0, .ref q1, .ref q2, .ref q3, .null, .null, .null, .int 0, .int 0, .int 0, .int 0, .int 0])), (q1, .inl (k1, 12, .inl (fun _ => 0))), (q2, .inl (k2, 12, .inl (fun _ => 0))), (q3, .inl (k3, 12, .inr (.inl (fun _ => 0)))), (q4, .inl (k4, 144, .inl (fun _ => 0)))] := hD
  have hK : va_K (dC, dI) vwCl [(k1, .int), (k2, .int), (k3, .long), (k4, .int)] s := hK
  refine W.widen (k := 4) (n := 180) (Nat.le_of_ble_eq_true rfl) (Nat.le_of_ble_eq_true rfl) ?_
  refine va_putF (D := (dC, dI)) (ci := 1) (v := .ref q4) (ty := .array .int) (C := RP) (T := FP) (N := 12) hx hb hta iP tP tP_ok nP hown hK hP hD hS 0 rfl rfl 4 (by decide) (hta _ m_67) (fun _ h9 => h9) rfl hin rfl (by decide +kernel) rfl rfl (Nat.le_of_ble_eq_true rfl) dP_init_34 (fun H locs hP hD hS => ?_)
  have hP : va_P (dC, dI) vwCl [(h0, .inr (1, [.int 0, .ref q1, .ref q2, .ref q3, .ref q4, .null, .null, .int 0, .int 0, .int 0, .int 0, .int 0])), (q1, .inl (k1, 12, .inl (fun _ => 0))), (q2, .inl (k2, 12, .inl (fun _ => 0))), (q3, .inl (k3, 12, .inr (.inl (fun _ => 0)))), (q4, .inl (k4, 144, .inl (fun _ => 0)))] H := hP
  have hD : va_D A [(h0, .inr (1, [.int 0, .ref q1, .ref q2, .ref q3, .ref q4, .null, .null, .int 0, .int 0, .int 0, .int 0, .int 0])), (q1, .inl (k1, 12, .inl (fun _ => 0))), (q2, .inl (k2, 12, .inl (fun _ => 0))), (q3, .inl (k3, 12, .inr (.inl (fun _ => 0)))), (q4, .inl (k4, 144, .inl (fun _ => 0)))] := hD
  refine lv_aload_n hx hb dP_init_37 rfl (lv_at hl 0 rfl) ?_
  refine lv_bipush (v := nI 12) hx hb dP_init_38 (by decide) ?_
  refine va_newa (atype := .int) hx hb (hta _ m_55) (ty := .int) rfl hK hP hD hS hA (a0 := (12, .inl (fun _ => 0))) (N' := 12) (fun _ => rfl) (by decide) (by decide) (by decide) (Nat.le_of_ble_eq_true rfl) (Nat.le_of_ble_eq_true rfl) dP_init_40 (fun q5 k5 H hK hP hD hS => ?_)
  have hP : va_P (dC, dI) vwCl [(h0, .inr (1, [.int 0, .ref q1, .ref q2, .ref q3, .ref q4, .null, .null, .int 0, .int 0, .int 0, .int 0, .int 0])), (q1, .inl (k1, 12, .inl (fun _ => 0))), (q2, .inl (k2, 12, .inl (fun _ => 0))), (q3, .inl (k3, 12, .inr (.inl (fun _ => 0)))), (q4, .inl (k4, 144, .inl (fun _ => 0))), (q5, .inl (k5, 12, .inl (fun _ => 0)))] H := hP
  have hD : va_D A [(h0, .inr (1, [.int 0, .ref q1, .ref q2, .ref q3, .ref q4, .null, .null, .int 0, .int 0, .int 0, .int 0, .int 0])), (q1, .inl (k1, 12, .inl (fun _ => 0))), (q2, .inl (k2, 12, .inl (fun _ => 0))), (q3, .inl (k3, 12, .inr (.inl (fun _ => 0)))), (q4, .inl (k4, 144, .inl (fun _ => 0))), (q5, .inl (k5, 12, .inl (fun _ => 0)))] := hD
  have hK : va_K (dC, dI) vwCl [(k1, .int), (k2, .int), (k3, .long), (k4, .int), (k5, .int)] s := hK
  refine W.widen (k := 5) (n := 192) (Nat.le_of_ble_eq_true rfl) (Nat.le_of_ble_eq_true rfl) ?_
  refine va_putF (D := (dC, dI)) (ci := 1) (v := .ref q5) (ty := .array .int) (C := RP) (T := FP) (N := 12) hx hb hta iP tP tP_ok nP hown hK hP hD hS 0 rfl rfl 5 (by decide) (hta _ m_68) (fun _ h9 => h9) rfl hin rfl (by decide +kernel) rfl rfl (Nat.le_of_ble_eq_true rfl) dP_init_42 (fun H locs hP hD hS => ?_)
  have hP : va_P (dC, dI) vwCl [(h0, .inr (1, [.int 0, .ref q1, .ref q2, .ref q3, .ref q4, .ref q5, .null, .int 0, .int 0, .int 0, .int 0, .int 0])), (q1, .inl (k1, 12, .inl (fun _ => 0))), (q2, .inl (k2, 12, .inl (fun _ => 0))), (q3, .inl (k3, 12, .inr (.inl (fun _ => 0)))), (q4, .inl (k4, 144, .inl (fun _ => 0))), (q5, .inl (k5, 12, .inl (fun _ => 0)))] H := hP
  have hD : va_D A [(h0, .inr (1, [.int 0, .ref q1, .ref q2, .ref q3, .ref q4, .ref q5, .null, .int 0, .int 0, .int 0, .int 0, .int 0])), (q1, .inl (k1, 12, .inl (fun _ => 0))), (q2, .inl (k2, 12, .inl (fun _ => 0))), (q3, .inl (k3, 12, .inr (.inl (fun _ => 0)))), (q4, .inl (k4, 144, .inl (fun _ => 0))), (q5, .inl (k5, 12, .inl (fun _ => 0)))] := hD
  refine lv_aload_n hx hb dP_init_45 rfl (lv_at hl 0 rfl) ?_
  refine va_new (ci := 0) (fs := [.null, .null, .null, .null, .null, .int 0, .int 0, .long 0]) (C := RT) (T := FT) (N := 8) hx hb hta iT tT tT_ok hown (hta _ m_20) (hta _ m_21) (hta _ m_2) hK hP hD hS hA rfl (fun j hj => by rcases (show j = 0 ∨ j = 1 ∨ j = 2 ∨ j = 3 ∨ j = 4 ∨ j = 5 ∨ j = 6 ∨ j = 7 by omega) with rfl | rfl | rfl | rfl | rfl | rfl | rfl | rfl <;> rfl) (Nat.le_of_ble_eq_true rfl) (Nat.le_of_ble_eq_true rfl) dP_init_46 (fun qt H hP hD hS => ?_)
  have hP : va_P (dC, dI) vwCl [(h0, .inr (1, [.int 0, .ref q1, .ref q2, .ref q3, .ref q4, .ref q5, .null, .int 0, .int 0, .int 0, .int 0, .int 0])), (q1, .inl (k1, 12, .inl (fun _ => 0))), (q2, .inl (k2, 12, .inl (fun _ => 0))), (q3, .inl (k3, 12, .inr (.inl (fun _ => 0)))), (q4, .inl (k4, 144, .inl (fun _ => 0))), (q5, .inl (k5, 12, .inl (fun _ => 0))), (qt, .inr (0, [.null, .null, .null, .null, .null, .int 0, .int 0, .long 0]))] H := hP
  have hD : va_D A [(h0, .inr (1, [.int 0, .ref q1, .ref q2, .ref q3, .ref q4, .ref q5, .null, .int 0, .int 0, .int 0, .int 0, .int 0])), (q1, .inl (k1, 12, .inl (fun _ => 0))), (q2, .inl (k2, 12, .inl (fun _ => 0))), (q3, .inl (k3, 12, .inr (.inl (fun _ => 0)))), (q4, .inl (k4, 144, .inl (fun _ => 0))), (q5, .inl (k5, 12, .inl (fun _ => 0))), (qt, .inr (0, [.null, .null, .null, .null, .null, .int 0, .int 0, .long 0]))] := hD
  refine W.widen (k := 6) (n := 200) (Nat.le_of_ble_eq_true rfl) (Nat.le_of_ble_eq_true rfl) ?_
  refine lv_dup hx hb dP_init_49 rfl ?_
  have hFc := va_free (wc := [(qt, .inr (0, [.null, .null, .null, .null, .null, .int 0, .int 0, .long 0]))]) hD hS hA [6] rfl
  refine va_callv (va_runIN (As := []) (rest := [.ref qt, .ref h0]) ⟨hx, hb, hml, hown, hta⟩ (c_T_init l dC dI qt H.size) ⟨va_cnB 0 hta (gC m_24) rfl rfl rfl (hX _ nw_0) (hta _ m_2) (by decide +kernel) ⟨Nat.le_of_ble_eq_true rfl, Nat.le_of_ble_eq_true rfl⟩, rfl, hta _ m_23⟩ (wr_S xT_ok trivial (hK.sub (tys' := []) [] rfl) (hP.sub (ws' := [(qt, .inr (0, [.null, .null, .null, .null, .null, .int 0, .int 0, .long 0]))]) [6] rfl) (hD.sub (ws' := [(qt, .inr (0, [.null, .null, .null, .null, .null, .int 0, .int 0, .long 0]))]) [6] (by decide) rfl)) rfl rfl hl.1 rfl (lv_room (Nat.le_of_ble_eq_true rfl)) dP_init_50 ⟨Nat.le_of_ble_eq_true rfl, Nat.le_of_ble_eq_true rfl⟩) hS (fun q _ h => hFc q h) hFc (fun u t H1 locs ht hvm hw hB hz1 hk1 hS => ?_)
  obtain ⟨ta, tk⟩ := u
  obtain ⟨hP1, hK1, hD1⟩ := hB
  rw [ht] at hP1
  have hK1 := va_K.moved hvm.symm hK1
  have hw : ta 0 = qt := hw
  obtain ⟨hP, hD⟩ := va_join (wr := [(h0, .inr (1, [.int 0, .ref q1, .ref q2, .ref q3, .ref q4, .ref q5, .null, .int 0, .int 0, .int 0, .int 0, .int 0])), (q1, .inl (k1, 12, .inl (fun _ => 0))), (q2, .inl (k2, 12, .inl (fun _ => 0))), (q3, .inl (k3, 12, .inr (.inl (fun _ => 0)))), (q4, .inl (k4, 144, .inl (fun _ => 0))), (q5, .inl (k5, 12, .inl (fun _ => 0)))]) (w1 := TW ta tk T0) hP hD [6] [0, 1, 2, 3, 4, 5] rfl rfl (by decide) (by decide) hk1 hFc hP1 hD1
  have hK := hK.app hK1
  generalize H1 = H at hP hS ⊢
  rw [← hw]
  refine W.widen (k := 11) (n := 601) (Nat.le_of_ble_eq_true rfl) (Nat.le_of_ble_eq_true rfl) ?_
  refine va_putF (D := (dC, dI)) (ci := 1) (v := .ref (ta 0)) (ty := .object "PlanBounds$Table") (C := RP) (T := FP) (N := 12) hx hb hta iP tP tP_ok nP hown hK hP hD hS 0 rfl rfl 6 (by decide) (hta _ m_69) (fun _ h9 => h9) rfl hin rfl (by decide +kernel) rfl rfl (Nat.le_of_ble_eq_true rfl) dP_init_53 (fun H locs hP hD hS => ?_)
  have hP : va_P (dC, dI) vwCl ([(h0, .inr (1, [.int 0, .ref q1, .ref q2, .ref q3, .ref q4, .ref q5, .ref (ta 0), .int 0, .int 0, .int 0, .int 0, .int 0])), (q1, .inl (k1, 12, .inl (fun _ => 0))), (q2, .inl (k2, 12, .inl (fun _ => 0))), (q3, .inl (k3, 12, .inr (.inl (fun _ => 0)))), (q4, .inl (k4, 144, .inl (fun _ => 0))), (q5, .inl (k5, 12, .inl (fun _ => 0)))] ++ TW ta tk T0) H := hP
  have hD : va_D A ([(h0, .inr (1, [.int 0, .ref q1, .ref q2, .ref q3, .ref q4, .ref q5, .ref (ta 0), .int 0, .int 0, .int 0, .int 0, .int 0])), (q1, .inl (k1, 12, .inl (fun _ => 0))), (q2, .inl (k2, 12, .inl (fun _ => 0))), (q3, .inl (k3, 12, .inr (.inl (fun _ => 0)))), (q4, .inl (k4, 144, .inl (fun _ => 0))), (q5, .inl (k5, 12, .inl (fun _ => 0)))] ++ TW ta tk T0) := hD
  refine lv_aload_n hx hb dP_init_56 rfl (lv_at hl 0 rfl) ?_
  refine lv_iconst (v := 0) hx hb dP_init_57 (by decide) ?_
  refine va_put (D := (dC, dI)) (ci := 1) (v := .int 0) (ty := .int) (C := RP) (T := FP) (N := 12) hx hb hta iP tP tP_ok nP hown hK hP hD hS 0 rfl rfl 7 (by decide) (hta _ m_70) (fun _ h9 => h9) rfl (by decide +kernel) rfl rfl (Nat.le_of_ble_eq_true rfl) dP_init_58 (fun H locs hP hD hS => ?_)
  have hP : va_P (dC, dI) vwCl ([(h0, .inr (1, [.int 0, .ref q1, .ref q2, .ref q3, .ref q4, .ref q5, .ref (ta 0), .int 0, .int 0, .int 0, .int 0, .int 0])), (q1, .inl (k1, 12, .inl (fun _ => 0))), (q2, .inl (k2, 12, .inl (fun _ => 0))), (q3, .inl (k3, 12, .inr (.inl (fun _ => 0)))), (q4, .inl (k4, 144, .inl (fun _ => 0))), (q5, .inl (k5, 12, .inl (fun _ => 0)))] ++ TW ta tk T0) H := hP
  have hD : va_D A ([(h0, .inr (1, [.int 0, .ref q1, .ref q2, .ref q3, .ref q4, .ref q5, .ref (ta 0), .int 0, .int 0, .int 0, .int 0, .int 0])), (q1, .inl (k1, 12, .inl (fun _ => 0))), (q2, .inl (k2, 12, .inl (fun _ => 0))), (q3, .inl (k3, 12, .inr (.inl (fun _ => 0)))), (q4, .inl (k4, 144, .inl (fun _ => 0))), (q5, .inl (k5, 12, .inl (fun _ => 0)))] ++ TW ta tk T0) := hD
  refine lv_aload_n hx hb dP_init_61 rfl (lv_at hl 0 rfl) ?_
  refine lv_iconst (v := 0) hx hb dP_init_62 (by decide) ?_
  refine va_put (D := (dC, dI)) (ci := 1) (v := .int 0) (ty := .int) (C := RP) (T := FP) (N := 12) hx hb hta iP tP tP_ok nP hown hK hP hD hS 0 rfl rfl 8 (by decide) (hta _ m_71) (fun _ h9 => h9) rfl (by decide +kernel) rfl rfl (Nat.le_of_ble_eq_true rfl) dP_init_63 (fun H locs hP hD hS => ?_)
  have hP : va_P (dC, dI) vwCl ([(h0, .inr (1, [.int 0, .ref q1, .ref q2, .ref q3, .ref q4, .ref q5, .ref (ta 0), .int 0, .int 0, .int 0, .int 0, .int 0])), (q1, .inl (k1, 12, .inl (fun _ => 0))), (q2, .inl (k2, 12, .inl (fun _ => 0))), (q3, .inl (k3, 12, .inr (.inl (fun _ => 0)))), (q4, .inl (k4, 144, .inl (fun _ => 0))), (q5, .inl (k5, 12, .inl (fun _ => 0)))] ++ TW ta tk T0) H := hP
  have hD : va_D A ([(h0, .inr (1, [.int 0, .ref q1, .ref q2, .ref q3, .ref q4, .ref q5, .ref (ta 0), .int 0, .int 0, .int 0, .int 0, .int 0])), (q1, .inl (k1, 12, .inl (fun _ => 0))), (q2, .inl (k2, 12, .inl (fun _ => 0))), (q3, .inl (k3, 12, .inr (.inl (fun _ => 0)))), (q4, .inl (k4, 144, .inl (fun _ => 0))), (q5, .inl (k5, 12, .inl (fun _ => 0)))] ++ TW ta tk T0) := hD
  refine lv_aload_n hx hb dP_init_66 rfl (lv_at hl 0 rfl) ?_
  refine lv_iconst (v := 0) hx hb dP_init_67 (by decide) ?_
  refine va_put (D := (dC, dI)) (ci := 1) (v := .int 0) (ty := .int) (C := RP) (T := FP) (N := 12) hx hb hta iP tP tP_ok nP hown hK hP hD hS 0 rfl rfl 9 (by decide) (hta _ m_72) (fun _ h9 => h9) rfl (by decide +kernel) rfl rfl (Nat.le_of_ble_eq_true rfl) dP_init_68 (fun H locs hP hD hS => ?_)
  have hP : va_P (dC, dI) vwCl ([(h0, .inr (1, [.int 0, .ref q1, .ref q2, .ref q3, .ref q4, .ref q5, .ref (ta 0), .int 0, .int 0, .int 0, .int 0, .int 0])), (q1, .inl (k1, 12, .inl (fun _ => 0))), (q2, .inl (k2, 12, .inl (fun _ => 0))), (q3, .inl (k3, 12, .inr (.inl (fun _ => 0)))), (q4, .inl (k4, 144, .inl (fun _ => 0))), (q5, .inl (k5, 12, .inl (fun _ => 0)))] ++ TW ta tk T0) H := hP
  have hD : va_D A ([(h0, .inr (1, [.int 0, .ref q1, .ref q2, .ref q3, .ref q4, .ref q5, .ref (ta 0), .int 0, .int 0, .int 0, .int 0, .int 0])), (q1, .inl (k1, 12, .inl (fun _ => 0))), (q2, .inl (k2, 12, .inl (fun _ => 0))), (q3, .inl (k3, 12, .inr (.inl (fun _ => 0)))), (q4, .inl (k4, 144, .inl (fun _ => 0))), (q5, .inl (k5, 12, .inl (fun _ => 0)))] ++ TW ta tk T0) := hD
  refine lv_aload_n hx hb dP_init_71 rfl (lv_at hl 0 rfl) ?_
  refine lv_iconst (v := 0) hx hb dP_init_72 (by decide) ?_
  refine va_put (D := (dC, dI)) (ci := 1) (v := .int 0) (ty := .boolean) (C := RP) (T := FP) (N := 12) hx hb hta iP tP tP_ok nP hown hK hP hD hS 0 rfl rfl 10 (by decide) (hta _ m_73) (fun _ h9 => h9) rfl (by decide +kernel) rfl rfl (Nat.le_of_ble_eq_true rfl) dP_init_73 (fun H locs hP hD hS => ?_)
  have hP : va_P (dC, dI) vwCl ([(h0, .inr (1, [.int 0, .ref q1, .ref q2, .ref q3, .ref q4, .ref q5, .ref (ta 0), .int 0, .int 0, .int 0, .int 0, .int 0])), (q1, .inl (k1, 12, .inl (fun _ => 0))), (q2, .inl (k2, 12, .inl (fun _ => 0))), (q3, .inl (k3, 12, .inr (.inl (fun _ => 0)))), (q4, .inl (k4, 144, .inl (fun _ => 0))), (q5, .inl (k5, 12, .inl (fun _ => 0)))] ++ TW ta tk T0) H := hP
  have hD : va_D A ([(h0, .inr (1, [.int 0, .ref q1, .ref q2, .ref q3, .ref q4, .ref q5, .ref (ta 0), .int 0, .int 0, .int 0, .int 0, .int 0])), (q1, .inl (k1, 12, .inl (fun _ => 0))), (q2, .inl (k2, 12, .inl (fun _ => 0))), (q3, .inl (k3, 12, .inr (.inl (fun _ => 0)))), (q4, .inl (k4, 144, .inl (fun _ => 0))), (q5, .inl (k5, 12, .inl (fun _ => 0)))] ++ TW ta tk T0) := hD
  refine lv_aload_n hx hb dP_init_76 rfl (lv_at hl 0 rfl) ?_
  refine lv_iconst (v := (-1)) hx hb dP_init_77 (by decide) ?_
  refine va_put (D := (dC, dI)) (ci := 1) (v := .int (-1)) (ty := .int) (C := RP) (T := FP) (N := 12) hx hb hta iP tP tP_ok nP hown hK hP hD hS 0 rfl rfl 11 (by decide) (hta _ m_74) (fun _ h9 => h9) rfl (by decide +kernel) rfl rfl (Nat.le_of_ble_eq_true rfl) dP_init_78 (fun H locs hP hD hS => ?_)
  have hP : va_P (dC, dI) vwCl ([(h0, .inr (1, [.int 0, .ref q1, .ref q2, .ref q3, .ref q4, .ref q5, .ref (ta 0), .int 0, .int 0, .int 0, .int 0, .int (-1)])), (q1, .inl (k1, 12, .inl (fun _ => 0))), (q2, .inl (k2, 12, .inl (fun _ => 0))), (q3, .inl (k3, 12, .inr (.inl (fun _ => 0)))), (q4, .inl (k4, 144, .inl (fun _ => 0))), (q5, .inl (k5, 12, .inl (fun _ => 0)))] ++ TW ta tk T0) H := hP
  have hD : va_D A ([(h0, .inr (1, [.int 0, .ref q1, .ref q2, .ref q3, .ref q4, .ref q5, .ref (ta 0), .int 0, .int 0, .int 0, .int 0, .int (-1)])), (q1, .inl (k1, 12, .inl (fun _ => 0))), (q2, .inl (k2, 12, .inl (fun _ => 0))), (q3, .inl (k3, 12, .inr (.inl (fun _ => 0)))), (q4, .inl (k4, 144, .inl (fun _ => 0))), (q5, .inl (k5, 12, .inl (fun _ => 0)))] ++ TW ta tk T0) := hD
  refine lv_aload_n hx hb dP_init_81 rfl (lv_at hl 0 rfl) ?_
  refine lv_iconst (v := 1) hx hb dP_init_82 (by decide) ?_
  refine lv_bipush (v := 60) hx hb dP_init_83 (by decide) ?_
  refine lv_iload_n hx hb dP_init_85 rfl (lv_at hl 1 rfl) ?_
  refine va_mmin hx hb (hml.trans hl.1.symm) hown (hta _ m_57) (hta _ m_58) (hta _ m_3) (hta _ m_59) (Nat.le_of_ble_eq_true rfl) (Nat.le_of_ble_eq_true rfl) (Nat.le_of_ble_eq_true rfl) (Nat.le_of_ble_eq_true rfl) dP_init_86 ?_
  refine va_mmax hx hb (hml.trans hl.1.symm) hown (hta _ m_60) (hta _ m_61) (hta _ m_3) (hta _ m_62) (Nat.le_of_ble_eq_true rfl) (Nat.le_of_ble_eq_true rfl) (Nat.le_of_ble_eq_true rfl) (Nat.le_of_ble_eq_true rfl) dP_init_89 ?_
  refine va_putF (D := (dC, dI)) (ci := 1) (v := .int (if 1 < (if x < 60 then x else 60) then if x < 60 then x else 60 else 1)) (ty := .int) (C := RP) (T := FP) (N := 12) hx hb hta iP tP tP_ok nP hown hK hP hD hS 0 rfl rfl 0 (by decide) (hta _ m_63) (fun _ h9 => h9) rfl hin rfl (by decide +kernel) rfl rfl (Nat.le_of_ble_eq_true rfl) dP_init_92 (fun H locs hP hD hS => ?_)
  have hP : va_P (dC, dI) vwCl ([(h0, .inr (1, [.int (if 1 < (if x < 60 then x else 60) then if x < 60 then x else 60 else 1), .ref q1, .ref q2, .ref q3, .ref q4, .ref q5, .ref (ta 0), .int 0, .int 0, .int 0, .int 0, .int (-1)])), (q1, .inl (k1, 12, .inl (fun _ => 0))), (q2, .inl (k2, 12, .inl (fun _ => 0))), (q3, .inl (k3, 12, .inr (.inl (fun _ => 0)))), (q4, .inl (k4, 144, .inl (fun _ => 0))), (q5, .inl (k5, 12, .inl (fun _ => 0)))] ++ TW ta tk T0) H := hP
  have hD : va_D A ([(h0, .inr (1, [.int (if 1 < (if x < 60 then x else 60) then if x < 60 then x else 60 else 1), .ref q1, .ref q2, .ref q3, .ref q4, .ref q5, .ref (ta 0), .int 0, .int 0, .int 0, .int 0, .int (-1)])), (q1, .inl (k1, 12, .inl (fun _ => 0))), (q2, .inl (k2, 12, .inl (fun _ => 0))), (q3, .inl (k3, 12, .inr (.inl (fun _ => 0)))), (q4, .inl (k4, 144, .inl (fun _ => 0))), (q5, .inl (k5, 12, .inl (fun _ => 0)))] ++ TW ta tk T0) := hD
  exact W.vret hx hb hr (fun t ht hW => ⟨⟨(ad12 ta q4 h0 q1 q2 q3 q5, k12 tk k4 k1 k2 k3 k5), rfl, rfl, by rw [ht]; exact hP.sub [0, 1, 2, 3, 5, 4, 6, 7, 8, 9, 10, 11] rfl, va_K.moved hW.alike (hK.sub [0, 1, 2, 4, 3, 5, 6, 7, 8, 9] rfl), hD.sub [0, 1, 2, 3, 5, 4, 6, 7, 8, 9, 10, 11] (by decide) rfl⟩, hS.F ht⟩) hS.2.2 dP_init_95
