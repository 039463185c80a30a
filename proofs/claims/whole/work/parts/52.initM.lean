def mo11 (h a b c d e f g i j k : Nat) : Nat → Nat := fun z => match z with
  | 0 => h
  | 1 => a
  | 2 => b
  | 3 => c
  | 4 => d
  | 5 => e
  | 6 => f
  | 7 => g
  | 8 => i
  | 9 => j
  | _ => k
def km11 (a b c d e f g i j k : ClassId) : Nat → ClassId := fun z => match z with
  | 1 => a
  | 2 => b
  | 3 => c
  | 4 => d
  | 5 => e
  | 6 => f
  | 7 => g
  | 8 => i
  | 9 => j
  | _ => k
def wkM (x : Int32) : Int32 := if x < 1 then 1 else if 60 < x then 60 else x
def noL : Nat → Nat → (Nat → Option Nat) → (Nat → Option Nat)
  | _, 0, f => f
  | k, n + 1, f => noL (k + 1) n (va_up f k none)
def M0 (x : Int32) : MS := (ms 0 (wkM x) 0 (fun _ => 0) 0 (fun _ => 0) (fun _ => 0) (fun _ => 0) (fun _ => 0) (noL 0 12 (fun _ => some 0)) 0 false 0 1 (noL 0 37 (fun _ => some 0)) (fun _ => 0) (fun _ => 0) (fun _ => 0) none)
set_option maxHeartbeats 4000000 in
set_option maxRecDepth 100000 in
theorem c_M_init (l : Launch) (dC : Nat → ClassId) (dI : Nat → Nat → Nat) (h0 sz : Nat) (x : Int32) : Met l yM_init wM_init ({ frames := 1, cells := 10, slots := 1215, locals := 12 }) (wPc [.ref h0, .int x] sz (dC, dI) vwCl [(h0, .inr (2, [.int 0, .int 0, .int 0, .null, .int 0, .null, .null, .null, .null, .null, .int 0, .int 0, .int 0, .long 0, .null, .null, .null, .null, .int 0]))] [] xT) (va_Qv (fun u : (Nat → Nat) × (Nat → ClassId) => u.1 0 = h0) (fun u t => va_P (dC, dI) vwCl (MW u.1 u.2 (M0 x)) t.heap ∧ va_K (dC, dI) vwCl (MK u.2) t ∧ va_D (va_A [(h0, .inr (2, [.int 0, .int 0, .int 0, .null, .int 0, .null, .null, .null, .null, .null, .int 0, .int 0, .int 0, .long 0, .null, .null, .null, .null, .int 0]))] sz) (MW u.1 u.2 (M0 x))) (va_A [(h0, .inr (2, [.int 0, .int 0, .int 0, .null, .int 0, .null, .null, .null, .null, .null, .int 0, .int 0, .int 0, .long 0, .null, .null, .null, .null, .int 0]))] sz)) 10 1215 (va_A [(h0, .inr (2, [.int 0, .int 0, .int 0, .null, .int 0, .null, .null, .null, .null, .null, .int 0, .int 0, .int 0, .long 0, .null, .null, .null, .null, .int 0]))] sz) := by
  refine Met.ofW (cc := bM_init) (maxL := 3) (ret := none) (by decide) rfl ?_
  intro p e s m args below meth c s₁ B hml hv
  obtain ⟨rfl, hsz, hP, hK, hD0, hX⟩ := hv
  have hx := B.exec
  have hb := B.bytes
  have hr := B.returns
  have hts := atoms_spec (ws := wM_init) B.pre
  have hta : ∀ w ∈ AW, w.before _ s = true := fun w h => hts w (List.mem_cons_of_mem _ h)
  have hown : s.vm.findClass RM = some m.cls := findClass_of_methodNamed B.named
  have hlocks := B.notSynchronized
  have hin : meth.name = "<init>" := (name_of_methodNamed B.named B.method).1
  subst hsz
  have hD := hD0.self (sz := s.heap.size)
  generalize hAe : va_A [(h0, .inr (2, [.int 0, .int 0, .int 0, .null, .int 0, .null, .null, .null, .null, .null, .int 0, .int 0, .int 0, .long 0, .null, .null, .null, .null, .int 0]))] s.heap.size = A at hD ⊢
  have hA : ∀ q : Nat, s.heap.size ≤ q → A q := fun q h => by rw [← hAe]; exact Or.inr h
  have hS : va_S A s.heap s.heap [] := va_S.rf
  have hl := lv_entry ([.ref h0, .int x]) (n := 3) (Nat.le_of_ble_eq_true rfl)
  rw [lg_entry_eq]
  generalize (lg_sl ([.ref h0, .int x]) ++ List.replicate (3 - (lg_sl ([.ref h0, .int x])).length) Slot.unset).toArray = ls at hl ⊢
  have hl : lv_has ls 3 [(0, .ref h0), (1, .int x)] := hl
  refine lv_aload_n hx hb dM_init_0 rfl (lv_at hl 0 rfl) ?_
  refine W.objInit hx hb hown (hta _ m_491) (hta _ m_18) (hta _ m_19) rfl (by rw [hml]; exact hl.1) rfl dM_init_1 (Nat.le_of_ble_eq_true rfl) (Nat.le_of_ble_eq_true rfl) ?_
  refine W.eq (g2 := F0 m 4 ls []) rfl ?_
  refine lv_aload_n hx hb dM_init_4 rfl (lv_at hl 0 rfl) ?_
  refine lv_bipush (v := nI 12) hx hb dM_init_5 (by decide) ?_
  refine va_newa (atype := .long) hx hb (hta _ m_56) (ty := .long) rfl hK hP hD hS hA (a0 := (12, .inr (.inl (fun _ => 0)))) (N' := 12) (fun _ => rfl) (by decide) (by decide) (by decide) (Nat.le_of_ble_eq_true rfl) (Nat.le_of_ble_eq_true rfl) dM_init_7 (fun q1 k1 H hK hP hD hS => ?_)
  have hP : va_P (dC, dI) vwCl [(h0, .inr (2, [.int 0, .int 0, .int 0, .null, .int 0, .null, .null, .null, .null, .null, .int 0, .int 0, .int 0, .long 0, .null, .null, .null, .null, .int 0])), (q1, .inl (k1, 12, .inr (.inl (fun _ => 0))))] H := hP
  have hD : va_D A [(h0, .inr (2, [.int 0, .int 0, .int 0, .null, .int 0, .null, .null, .null, .null, .null, .int 0, .int 0, .int 0, .long 0, .null, .null, .null, .null, .int 0])), (q1, .inl (k1, 12, .inr (.inl (fun _ => 0))))] := hD
  have hK : va_K (dC, dI) vwCl [(k1, .long)] s := hK
  refine W.widen (k := 1) (n := 12) (Nat.le_of_ble_eq_true rfl) (Nat.le_of_ble_eq_true rfl) ?_
  refine va_putF (D := (dC, dI)) (ci := 2) (v := .ref q1) (ty := .array .long) (C := RM) (T := FM) (N := 19) hx hb hta iM tM tM_ok nM hown hK hP hD hS 0 rfl rfl 3 (by decide) (hta _ m_495) (fun _ h9 => h9) rfl hin rfl (by decide +kernel) rfl rfl (Nat.le_of_ble_eq_true rfl) dM_init_9 (fun H locs hP hD hS => ?_)
  have hP : va_P (dC, dI) vwCl [(h0, .inr (2, [.int 0, .int 0, .int 0, .ref q1, .int 0, .null, .null, .null, .null, .null, .int 0, .int 0, .int 0, .long 0, .null, .null, .null, .null, .int 0])), (q1, .inl (k1, 12, .inr (.inl (fun _ => 0))))] H := hP
  have hD : va_D A [(h0, .inr (2, [.int 0, .int 0, .int 0, .ref q1, .int 0, .null, .null, .null, .null, .null, .int 0, .int 0, .int 0, .long 0, .null, .null, .null, .null, .int 0])), (q1, .inl (k1, 12, .inr (.inl (fun _ => 0))))] := hD
  refine lv_aload_n hx hb dM_init_12 rfl (lv_at hl 0 rfl) ?_
  refine lv_bipush (v := nI 12) hx hb dM_init_13 (by decide) ?_
  refine va_newa (atype := .int) hx hb (hta _ m_55) (ty := .int) rfl hK hP hD hS hA (a0 := (12, .inl (fun _ => 0))) (N' := 12) (fun _ => rfl) (by decide) (by decide) (by decide) (Nat.le_of_ble_eq_true rfl) (Nat.le_of_ble_eq_true rfl) dM_init_15 (fun q2 k2 H hK hP hD hS => ?_)
  have hP : va_P (dC, dI) vwCl [(h0, .inr (2, [.int 0, .int 0, .int 0, .ref q1, .int 0, .null, .null, .null, .null, .null, .int 0, .int 0, .int 0, .long 0, .null, .null, .null, .null, .int 0])), (q1, .inl (k1, 12, .inr (.inl (fun _ => 0)))), (q2, .inl (k2, 12, .inl (fun _ => 0)))] H := hP
  have hD : va_D A [(h0, .inr (2, [.int 0, .int 0, .int 0, .ref q1, .int 0, .null, .null, .null, .null, .null, .int 0, .int 0, .int 0, .long 0, .null, .null, .null, .null, .int 0])), (q1, .inl (k1, 12, .inr (.inl (fun _ => 0)))), (q2, .inl (k2, 12, .inl (fun _ => 0)))] := hD
  have hK : va_K (dC, dI) vwCl [(k1, .long), (k2, .int)] s := hK
  refine W.widen (k := 2) (n := 24) (Nat.le_of_ble_eq_true rfl) (Nat.le_of_ble_eq_true rfl) ?_
  refine va_putF (D := (dC, dI)) (ci := 2) (v := .ref q2) (ty := .array .int) (C := RM) (T := FM) (N := 19) hx hb hta iM tM tM_ok nM hown hK hP hD hS 0 rfl rfl 5 (by decide) (hta _ m_497) (fun _ h9 => h9) rfl hin rfl (by decide +kernel) rfl rfl (Nat.le_of_ble_eq_true rfl) dM_init_17 (fun H locs hP hD hS => ?_)
  have hP : va_P (dC, dI) vwCl [(h0, .inr (2, [.int 0, .int 0, .int 0, .ref q1, .int 0, .ref q2, .null, .null, .null, .null, .int 0, .int 0, .int 0, .long 0, .null, .null, .null, .null, .int 0])), (q1, .inl (k1, 12, .inr (.inl (fun _ => 0)))), (q2, .inl (k2, 12, .inl (fun _ => 0)))] H := hP
  have hD : va_D A [(h0, .inr (2, [.int 0, .int 0, .int 0, .ref q1, .int 0, .ref q2, .null, .null, .null, .null, .int 0, .int 0, .int 0, .long 0, .null, .null, .null, .null, .int 0])), (q1, .inl (k1, 12, .inr (.inl (fun _ => 0)))), (q2, .inl (k2, 12, .inl (fun _ => 0)))] := hD
  refine lv_aload_n hx hb dM_init_20 rfl (lv_at hl 0 rfl) ?_
  refine lv_bipush (v := nI 12) hx hb dM_init_21 (by decide) ?_
  refine va_newa (atype := .int) hx hb (hta _ m_55) (ty := .int) rfl hK hP hD hS hA (a0 := (12, .inl (fun _ => 0))) (N' := 12) (fun _ => rfl) (by decide) (by decide) (by decide) (Nat.le_of_ble_eq_true rfl) (Nat.le_of_ble_eq_true rfl) dM_init_23 (fun q3 k3 H hK hP hD hS => ?_)
  have hP : va_P (dC, dI) vwCl [(h0, .inr (2, [.int 0, .int 0, .int 0, .ref q1, .int 0, .ref q2, .null, .null, .null, .null, .int 0, .int 0, .int 0, .long 0, .null, .null, .null, .null, .int 0])), (q1, .inl (k1, 12, .inr (.inl (fun _ => 0)))), (q2, .inl (k2, 12, .inl (fun _ => 0))), (q3, .inl (k3, 12, .inl (fun _ => 0)))] H := hP
  have hD : va_D A [(h0, .inr (2, [.int 0, .int 0, .int 0, .ref q1, .int 0, .ref q2, .null, .null, .null, .null, .int 0, .int 0, .int 0, .long 0, .null, .null, .null, .null, .int 0])), (q1, .inl (k1, 12, .inr (.inl (fun _ => 0)))), (q2, .inl (k2, 12, .inl (fun _ => 0))), (q3, .inl (k3, 12, .inl (fun _ => 0)))] := hD
  have hK : va_K (dC, dI) vwCl [(k1, .long), (k2, .int), (k3, .int)] s := hK
  refine W.widen (k := 3) (n := 36) (Nat.le_of_ble_eq_true rfl) (Nat.le_of_ble_eq_true rfl) ?_
  refine va_putF (D := (dC, dI)) (ci := 2) (v := .ref q3) (ty := .array .int) (C := RM) (T := FM) (N := 19) hx hb hta iM tM tM_ok nM hown hK hP hD hS 0 rfl rfl 6 (by decide) (hta _ m_498) (fun _ h9 => h9) rfl hin rfl (by decide +kernel) rfl rfl (Nat.le_of_ble_eq_true rfl) dM_init_25 (fun H locs hP hD hS => ?_)
  have hP : va_P (dC, dI) vwCl [(h0, .inr (2, [.int 0, .int 0, .int 0, .ref q1, .int 0, .ref q2, .ref q3, .null, .null, .null, .int 0, .int 0, .int 0, .long 0, .null, .null, .null, .null, .int 0])), (q1, .inl (k1, 12, .inr (.inl (fun _ => 0)))), (q2, .inl (k2, 12, .inl (fun _ => 0))), (q3, .inl (k3, 12, .inl (fun _ => 0)))] H := hP
  have hD : va_D A [(h0, .inr (2, [.int 0, .int 0, .int 0, .ref q1, .int 0, .ref q2, .ref q3, .null, .null, .null, .int 0, .int 0, .int 0, .long 0, .null, .null, .null, .null, .int 0])), (q1, .inl (k1, 12, .inr (.inl (fun _ => 0)))), (q2, .inl (k2, 12, .inl (fun _ => 0))), (q3, .inl (k3, 12, .inl (fun _ => 0)))] := hD
  refine lv_aload_n hx hb dM_init_28 rfl (lv_at hl 0 rfl) ?_
  refine lv_bipush (v := nI 12) hx hb dM_init_29 (by decide) ?_
  refine va_newa (atype := .long) hx hb (hta _ m_56) (ty := .long) rfl hK hP hD hS hA (a0 := (12, .inr (.inl (fun _ => 0)))) (N' := 12) (fun _ => rfl) (by decide) (by decide) (by decide) (Nat.le_of_ble_eq_true rfl) (Nat.le_of_ble_eq_true rfl) dM_init_31 (fun q4 k4 H hK hP hD hS => ?_)
  have hP : va_P (dC, dI) vwCl [(h0, .inr (2, [.int 0, .int 0, .int 0, .ref q1, .int 0, .ref q2, .ref q3, .null, .null, .null, .int 0, .int 0, .int 0, .long 0, .null, .null, .null, .null, .int 0])), (q1, .inl (k1, 12, .inr (.inl (fun _ => 0)))), (q2, .inl (k2, 12, .inl (fun _ => 0))), (q3, .inl (k3, 12, .inl (fun _ => 0))), (q4, .inl (k4, 12, .inr (.inl (fun _ => 0))))] H := hP
  have hD : va_D A [(h0, .inr (2, [.int 0, .int 0, .int 0, .ref q1, .int 0, .ref q2, .ref q3, .null, .null, .null, .int 0, .int 0, .int 0, .long 0, .null, .null, .null, .null, .int 0])), (q1, .inl (k1, 12, .inr (.inl (fun _ => 0)))), (q2, .inl (k2, 12, .inl (fun _ => 0))), (q3, .inl (k3, 12, .inl (fun _ => 0))), (q4, .inl (k4, 12, .inr (.inl (fun _ => 0))))] := hD
  have hK : va_K (dC, dI) vwCl [(k1, .long), (k2, .int), (k3, .int), (k4, .long)] s := hK
  refine W.widen (k := 4) (n := 48) (Nat.le_of_ble_eq_true rfl) (Nat.le_of_ble_eq_true rfl) ?_
  refine va_putF (D := (dC, dI)) (ci := 2) (v := .ref q4) (ty := .array .long) (C := RM) (T := FM) (N := 19) hx hb hta iM tM tM_ok nM hown hK hP hD hS 0 rfl rfl 7 (by decide) (hta _ m_499) (fun _ h9 => h9) rfl hin rfl (by decide +kernel) rfl rfl (Nat.le_of_ble_eq_true rfl) dM_init_33 (fun H locs hP hD hS => ?_)
  have hP : va_P (dC, dI) vwCl [(h0, .inr (2, [.int 0, .int 0, .int 0, .ref q1, .int 0, .ref q2, .ref q3, .ref q4, .null, .null, .int 0, .int 0, .int 0, .long 0, .null, .null, .null, .null, .int 0])), (q1, .inl (k1, 12, .inr (.inl (fun _ => 0)))), (q2, .inl (k2, 12, .inl (fun _ => 0))), (q3, .inl (k3, 12, .inl (fun _ => 0))), (q4, .inl (k4, 12, .inr (.inl (fun _ => 0))))] H := hP
  have hD : va_D A [(h0, .inr (2, [.int 0, .int 0, .int 0, .ref q1, .int 0, .ref q2, .ref q3, .ref q4, .null, .null, .int 0, .int 0, .int 0, .long 0, .null, .null, .null, .null, .int 0])), (q1, .inl (k1, 12, .inr (.inl (fun _ => 0)))), (q2, .inl (k2, 12, .inl (fun _ => 0))), (q3, .inl (k3, 12, .inl (fun _ => 0))), (q4, .inl (k4, 12, .inr (.inl (fun _ => 0))))] := hD
  refine lv_aload_n hx hb dM_init_36 rfl (lv_at hl 0 rfl) ?_
  refine lv_sipush (v := nI 144) hx hb dM_init_37 (by decide) ?_
  refine va_newa (atype := .long) hx hb (hta _ m_56) (ty := .long) rfl hK hP hD hS hA (a0 := (144, .inr (.inl (fun _ => 0)))) (N' := 144) (fun _ => rfl) (by decide) (by decide) (by decide) (Nat.le_of_ble_eq_true rfl) (Nat.le_of_ble_eq_true rfl) dM_init_40 (fun q5 k5 H hK hP hD hS => ?_)
  have hP : va_P (dC, dI) vwCl [(h0, .inr (2, [.int 0, .int 0, .int 0, .ref q1, .int 0, .ref q2, .ref q3, .ref q4, .null, .null, .int 0, .int 0, .int 0, .long 0, .null, .null, .null, .null, .int 0])), (q1, .inl (k1, 12, .inr (.inl (fun _ => 0)))), (q2, .inl (k2, 12, .inl (fun _ => 0))), (q3, .inl (k3, 12, .inl (fun _ => 0))), (q4, .inl (k4, 12, .inr (.inl (fun _ => 0)))), (q5, .inl (k5, 144, .inr (.inl (fun _ => 0))))] H := hP
  have hD : va_D A [(h0, .inr (2, [.int 0, .int 0, .int 0, .ref q1, .int 0, .ref q2, .ref q3, .ref q4, .null, .null, .int 0, .int 0, .int 0, .long 0, .null, .null, .null, .null, .int 0])), (q1, .inl (k1, 12, .inr (.inl (fun _ => 0)))), (q2, .inl (k2, 12, .inl (fun _ => 0))), (q3, .inl (k3, 12, .inl (fun _ => 0))), (q4, .inl (k4, 12, .inr (.inl (fun _ => 0)))), (q5, .inl (k5, 144, .inr (.inl (fun _ => 0))))] := hD
  have hK : va_K (dC, dI) vwCl [(k1, .long), (k2, .int), (k3, .int), (k4, .long), (k5, .long)] s := hK
  refine W.widen (k := 5) (n := 192) (Nat.le_of_ble_eq_true rfl) (Nat.le_of_ble_eq_true rfl) ?_
  refine va_putF (D := (dC, dI)) (ci := 2) (v := .ref q5) (ty := .array .long) (C := RM) (T := FM) (N := 19) hx hb hta iM tM tM_ok nM hown hK hP hD hS 0 rfl rfl 8 (by decide) (hta _ m_500) (fun _ h9 => h9) rfl hin rfl (by decide +kernel) rfl rfl (Nat.le_of_ble_eq_true rfl) dM_init_42 (fun H locs hP hD hS => ?_)
  have hP : va_P (dC, dI) vwCl [(h0, .inr (2, [.int 0, .int 0, .int 0, .ref q1, .int 0, .ref q2, .ref q3, .ref q4, .ref q5, .null, .int 0, .int 0, .int 0, .long 0, .null, .null, .null, .null, .int 0])), (q1, .inl (k1, 12, .inr (.inl (fun _ => 0)))), (q2, .inl (k2, 12, .inl (fun _ => 0))), (q3, .inl (k3, 12, .inl (fun _ => 0))), (q4, .inl (k4, 12, .inr (.inl (fun _ => 0)))), (q5, .inl (k5, 144, .inr (.inl (fun _ => 0))))] H := hP
  have hD : va_D A [(h0, .inr (2, [.int 0, .int 0, .int 0, .ref q1, .int 0, .ref q2, .ref q3, .ref q4, .ref q5, .null, .int 0, .int 0, .int 0, .long 0, .null, .null, .null, .null, .int 0])), (q1, .inl (k1, 12, .inr (.inl (fun _ => 0)))), (q2, .inl (k2, 12, .inl (fun _ => 0))), (q3, .inl (k3, 12, .inl (fun _ => 0))), (q4, .inl (k4, 12, .inr (.inl (fun _ => 0)))), (q5, .inl (k5, 144, .inr (.inl (fun _ => 0))))] := hD
  refine lv_aload_n hx hb dM_init_45 rfl (lv_at hl 0 rfl) ?_
  refine lv_bipush (v := nI 12) hx hb dM_init_46 (by decide) ?_
  refine va_newa (atype := .int) hx hb (hta _ m_55) (ty := .int) rfl hK hP hD hS hA (a0 := (12, .inl (fun _ => 0))) (N' := 12) (fun _ => rfl) (by decide) (by decide) (by decide) (Nat.le_of_ble_eq_true rfl) (Nat.le_of_ble_eq_true rfl) dM_init_48 (fun q6 k6 H hK hP hD hS => ?_)
  have hP : va_P (dC, dI) vwCl [(h0, .inr (2, [.int 0, .int 0, .int 0, .ref q1, .int 0, .ref q2, .ref q3, .ref q4, .ref q5, .null, .int 0, .int 0, .int 0, .long 0, .null, .null, .null, .null, .int 0])), (q1, .inl (k1, 12, .inr (.inl (fun _ => 0)))), (q2, .inl (k2, 12, .inl (fun _ => 0))), (q3, .inl (k3, 12, .inl (fun _ => 0))), (q4, .inl (k4, 12, .inr (.inl (fun _ => 0)))), (q5, .inl (k5, 144, .inr (.inl (fun _ => 0)))), (q6, .inl (k6, 12, .inl (fun _ => 0)))] H := hP
  have hD : va_D A [(h0, .inr (2, [.int 0, .int 0, .int 0, .ref q1, .int 0, .ref q2, .ref q3, .ref q4, .ref q5, .null, .int 0, .int 0, .int 0, .long 0, .null, .null, .null, .null, .int 0])), (q1, .inl (k1, 12, .inr (.inl (fun _ => 0)))), (q2, .inl (k2, 12, .inl (fun _ => 0))), (q3, .inl (k3, 12, .inl (fun _ => 0))), (q4, .inl (k4, 12, .inr (.inl (fun _ => 0)))), (q5, .inl (k5, 144, .inr (.inl (fun _ => 0)))), (q6, .inl (k6, 12, .inl (fun _ => 0)))] := hD
  have hK : va_K (dC, dI) vwCl [(k1, .long), (k2, .int), (k3, .int), (k4, .long), (k5, .long), (k6, .int)] s := hK
  refine W.widen (k := 6) (n := 204) (Nat.le_of_ble_eq_true rfl) (Nat.le_of_ble_eq_true rfl) ?_
  refine va_putF (D := (dC, dI)) (ci := 2) (v := .ref q6) (ty := .array .int) (C := RM) (T := FM) (N := 19) hx hb hta iM tM tM_ok nM hown hK hP hD hS 0 rfl rfl 9 (by decide) (hta _ m_501) (fun _ h9 => h9) rfl hin rfl (by decide +kernel) rfl rfl (Nat.le_of_ble_eq_true rfl) dM_init_50 (fun H locs hP hD hS => ?_)
  have hP : va_P (dC, dI) vwCl [(h0, .inr (2, [.int 0, .int 0, .int 0, .ref q1, .int 0, .ref q2, .ref q3, .ref q4, .ref q5, .ref q6, .int 0, .int 0, .int 0, .long 0, .null, .null, .null, .null, .int 0])), (q1, .inl (k1, 12, .inr (.inl (fun _ => 0)))), (q2, .inl (k2, 12, .inl (fun _ => 0))), (q3, .inl (k3, 12, .inl (fun _ => 0))), (q4, .inl (k4, 12, .inr (.inl (fun _ => 0)))), (q5, .inl (k5, 144, .inr (.inl (fun _ => 0)))), (q6, .inl (k6, 12, .inl (fun _ => 0)))] H := hP
  have hD : va_D A [(h0, .inr (2, [.int 0, .int 0, .int 0, .ref q1, .int 0, .ref q2, .ref q3, .ref q4, .ref q5, .ref q6, .int 0, .int 0, .int 0, .long 0, .null, .null, .null, .null, .int 0])), (q1, .inl (k1, 12, .inr (.inl (fun _ => 0)))), (q2, .inl (k2, 12, .inl (fun _ => 0))), (q3, .inl (k3, 12, .inl (fun _ => 0))), (q4, .inl (k4, 12, .inr (.inl (fun _ => 0)))), (q5, .inl (k5, 144, .inr (.inl (fun _ => 0)))), (q6, .inl (k6, 12, .inl (fun _ => 0)))] := hD
  refine lv_aload_n hx hb dM_init_53 rfl (lv_at hl 0 rfl) ?_
  refine lv_lconst (v := 1) hx hb dM_init_54 (by decide) ?_
  refine va_put (D := (dC, dI)) (ci := 2) (v := .long 1) (ty := .long) (C := RM) (T := FM) (N := 19) hx hb hta iM tM tM_ok nM hown hK hP hD hS 0 rfl rfl 13 (by decide) (hta _ m_505) (fun _ h9 => h9) rfl (by decide +kernel) rfl rfl (Nat.le_of_ble_eq_true rfl) dM_init_55 (fun H locs hP hD hS => ?_)
  have hP : va_P (dC, dI) vwCl [(h0, .inr (2, [.int 0, .int 0, .int 0, .ref q1, .int 0, .ref q2, .ref q3, .ref q4, .ref q5, .ref q6, .int 0, .int 0, .int 0, .long 1, .null, .null, .null, .null, .int 0])), (q1, .inl (k1, 12, .inr (.inl (fun _ => 0)))), (q2, .inl (k2, 12, .inl (fun _ => 0))), (q3, .inl (k3, 12, .inl (fun _ => 0))), (q4, .inl (k4, 12, .inr (.inl (fun _ => 0)))), (q5, .inl (k5, 144, .inr (.inl (fun _ => 0)))), (q6, .inl (k6, 12, .inl (fun _ => 0)))] H := hP
  have hD : va_D A [(h0, .inr (2, [.int 0, .int 0, .int 0, .ref q1, .int 0, .ref q2, .ref q3, .ref q4, .ref q5, .ref q6, .int 0, .int 0, .int 0, .long 1, .null, .null, .null, .null, .int 0])), (q1, .inl (k1, 12, .inr (.inl (fun _ => 0)))), (q2, .inl (k2, 12, .inl (fun _ => 0))), (q3, .inl (k3, 12, .inl (fun _ => 0))), (q4, .inl (k4, 12, .inr (.inl (fun _ => 0)))), (q5, .inl (k5, 144, .inr (.inl (fun _ => 0)))), (q6, .inl (k6, 12, .inl (fun _ => 0)))] := hD
  refine lv_aload_n hx hb dM_init_58 rfl (lv_at hl 0 rfl) ?_
  refine lv_bipush (v := nI 37) hx hb dM_init_59 (by decide) ?_
  refine va_newa (atype := .int) hx hb (hta _ m_55) (ty := .int) rfl hK hP hD hS hA (a0 := (37, .inl (fun _ => 0))) (N' := 37) (fun _ => rfl) (by decide) (by decide) (by decide) (Nat.le_of_ble_eq_true rfl) (Nat.le_of_ble_eq_true rfl) dM_init_61 (fun q7 k7 H hK hP hD hS => ?_)
  have hP : va_P (dC, dI) vwCl [(h0, .inr (2, [.int 0, .int 0, .int 0, .ref q1, .int 0, .ref q2, .ref q3, .ref q4, .ref q5, .ref q6, .int 0, .int 0, .int 0, .long 1, .null, .null, .null, .null, .int 0])), (q1, .inl (k1, 12, .inr (.inl (fun _ => 0)))), (q2, .inl (k2, 12, .inl (fun _ => 0))), (q3, .inl (k3, 12, .inl (fun _ => 0))), (q4, .inl (k4, 12, .inr (.inl (fun _ => 0)))), (q5, .inl (k5, 144, .inr (.inl (fun _ => 0)))), (q6, .inl (k6, 12, .inl (fun _ => 0))), (q7, .inl (k7, 37, .inl (fun _ => 0)))] H := hP
  have hD : va_D A [(h0, .inr (2, [.int 0, .int 0, .int 0, .ref q1, .int 0, .ref q2, .ref q3, .ref q4, .ref q5, .ref q6, .int 0, .int 0, .int 0, .long 1, .null, .null, .null, .null, .int 0])), (q1, .inl (k1, 12, .inr (.inl (fun _ => 0)))), (q2, .inl (k2, 12, .inl (fun _ => 0))), (q3, .inl (k3, 12, .inl (fun _ => 0))), (q4, .inl (k4, 12, .inr (.inl (fun _ => 0)))), (q5, .inl (k5, 144, .inr (.inl (fun _ => 0)))), (q6, .inl (k6, 12, .inl (fun _ => 0))), (q7, .inl (k7, 37, .inl (fun _ => 0)))] := hD
  have hK : va_K (dC, dI) vwCl [(k1, .long), (k2, .int), (k3, .int), (k4, .long), (k5, .long), (k6, .int), (k7, .int)] s := hK
  refine W.widen (k := 7) (n := 241) (Nat.le_of_ble_eq_true rfl) (Nat.le_of_ble_eq_true rfl) ?_
  refine va_putF (D := (dC, dI)) (ci := 2) (v := .ref q7) (ty := .array .int) (C := RM) (T := FM) (N := 19) hx hb hta iM tM tM_ok nM hown hK hP hD hS 0 rfl rfl 14 (by decide) (hta _ m_506) (fun _ h9 => h9) rfl hin rfl (by decide +kernel) rfl rfl (Nat.le_of_ble_eq_true rfl) dM_init_63 (fun H locs hP hD hS => ?_)
  have hP : va_P (dC, dI) vwCl [(h0, .inr (2, [.int 0, .int 0, .int 0, .ref q1, .int 0, .ref q2, .ref q3, .ref q4, .ref q5, .ref q6, .int 0, .int 0, .int 0, .long 1, .ref q7, .null, .null, .null, .int 0])), (q1, .inl (k1, 12, .inr (.inl (fun _ => 0)))), (q2, .inl (k2, 12, .inl (fun _ => 0))), (q3, .inl (k3, 12, .inl (fun _ => 0))), (q4, .inl (k4, 12, .inr (.inl (fun _ => 0)))), (q5, .inl (k5, 144, .inr (.inl (fun _ => 0)))), (q6, .inl (k6, 12, .inl (fun _ => 0))), (q7, .inl (k7, 37, .inl (fun _ => 0)))] H := hP
  have hD : va_D A [(h0, .inr (2, [.int 0, .int 0, .int 0, .ref q1, .int 0, .ref q2, .ref q3, .ref q4, .ref q5, .ref q6, .int 0, .int 0, .int 0, .long 1, .ref q7, .null, .null, .null, .int 0])), (q1, .inl (k1, 12, .inr (.inl (fun _ => 0)))), (q2, .inl (k2, 12, .inl (fun _ => 0))), (q3, .inl (k3, 12, .inl (fun _ => 0))), (q4, .inl (k4, 12, .inr (.inl (fun _ => 0)))), (q5, .inl (k5, 144, .inr (.inl (fun _ => 0)))), (q6, .inl (k6, 12, .inl (fun _ => 0))), (q7, .inl (k7, 37, .inl (fun _ => 0)))] := hD
  refine lv_aload_n hx hb dM_init_66 rfl (lv_at hl 0 rfl) ?_
  refine lv_bipush (v := nI 12) hx hb dM_init_67 (by decide) ?_
  refine va_newa (atype := .int) hx hb (hta _ m_55) (ty := .int) rfl hK hP hD hS hA (a0 := (12, .inl (fun _ => 0))) (N' := 12) (fun _ => rfl) (by decide) (by decide) (by decide) (Nat.le_of_ble_eq_true rfl) (Nat.le_of_ble_eq_true rfl) dM_init_69 (fun q8 k8 H hK hP hD hS => ?_)
  have hP : va_P (dC, dI) vwCl [(h0, .inr (2, [.int 0, .int 0, .int 0, .ref q1, .int 0, .ref q2, .ref q3, .ref q4, .ref q5, .ref q6, .int 0, .int 0, .int 0, .long 1, .ref q7, .null, .null, .null, .int 0])), (q1, .inl (k1, 12, .inr (.inl (fun _ => 0)))), (q2, .inl (k2, 12, .inl (fun _ => 0))), (q3, .inl (k3, 12, .inl (fun _ => 0))), (q4, .inl (k4, 12, .inr (.inl (fun _ => 0)))), (q5, .inl (k5, 144, .inr (.inl (fun _ => 0)))), (q6, .inl (k6, 12, .inl (fun _ => 0))), (q7, .inl (k7, 37, .inl (fun _ => 0))), (q8, .inl (k8, 12, .inl (fun _ => 0)))] H := hP
  have hD : va_D A [(h0, .inr (2, [.int 0, .int 0, .int 0, .ref q1, .int 0, .ref q2, .ref q3, .ref q4, .ref q5, .ref q6, .int 0, .int 0, .int 0, .long 1, .ref q7, .null, .null, .null, .int 0])), (q1, .inl (k1, 12, .inr (.inl (fun _ => 0)))), (q2, .inl (k2, 12, .inl (fun _ => 0))), (q3, .inl (k3, 12, .inl (fun _ => 0))), (q4, .inl (k4, 12, .inr (.inl (fun _ => 0)))), (q5, .inl (k5, 144, .inr (.inl (fun _ => 0)))), (q6, .inl (k6, 12, .inl (fun _ => 0))), (q7, .inl (k7, 37, .inl (fun _ => 0))), (q8, .inl (k8, 12, .inl (fun _ => 0)))] := hD
  have hK : va_K (dC, dI) vwCl [(k1, .long), (k2, .int), (k3, .int), (k4, .long), (k5, .long), (k6, .int), (k7, .int), (k8, .int)] s := hK
  refine W.widen (k := 8) (n := 253) (Nat.le_of_ble_eq_true rfl) (Nat.le_of_ble_eq_true rfl) ?_
  refine va_putF (D := (dC, dI)) (ci := 2) (v := .ref q8) (ty := .array .int) (C := RM) (T := FM) (N := 19) hx hb hta iM tM tM_ok nM hown hK hP hD hS 0 rfl rfl 15 (by decide) (hta _ m_507) (fun _ h9 => h9) rfl hin rfl (by decide +kernel) rfl rfl (Nat.le_of_ble_eq_true rfl) dM_init_71 (fun H locs hP hD hS => ?_)
  have hP : va_P (dC, dI) vwCl [(h0, .inr (2, [.int 0, .int 0, .int 0, .ref q1, .int 0, .ref q2, .ref q3, .ref q4, .ref q5, .ref q6, .int 0, .int 0, .int 0, .long 1, .ref q7, .ref q8, .null, .null, .int 0])), (q1, .inl (k1, 12, .inr (.inl (fun _ => 0)))), (q2, .inl (k2, 12, .inl (fun _ => 0))), (q3, .inl (k3, 12, .inl (fun _ => 0))), (q4, .inl (k4, 12, .inr (.inl (fun _ => 0)))), (q5, .inl (k5, 144, .inr (.inl (fun _ => 0)))), (q6, .inl (k6, 12, .inl (fun _ => 0))), (q7, .inl (k7, 37, .inl (fun _ => 0))), (q8, .inl (k8, 12, .inl (fun _ => 0)))] H := hP
  have hD : va_D A [(h0, .inr (2, [.int 0, .int 0, .int 0, .ref q1, .int 0, .ref q2, .ref q3, .ref q4, .ref q5, .ref q6, .int 0, .int 0, .int 0, .long 1, .ref q7, .ref q8, .null, .null, .int 0])), (q1, .inl (k1, 12, .inr (.inl (fun _ => 0)))), (q2, .inl (k2, 12, .inl (fun _ => 0))), (q3, .inl (k3, 12, .inl (fun _ => 0))), (q4, .inl (k4, 12, .inr (.inl (fun _ => 0)))), (q5, .inl (k5, 144, .inr (.inl (fun _ => 0)))), (q6, .inl (k6, 12, .inl (fun _ => 0))), (q7, .inl (k7, 37, .inl (fun _ => 0))), (q8, .inl (k8, 12, .inl (fun _ => 0)))] := hD
  refine lv_aload_n hx hb dM_init_74 rfl (lv_at hl 0 rfl) ?_
  refine lv_sipush (v := nI 481) hx hb dM_init_75 (by decide) ?_
  refine va_newa (atype := .long) hx hb (hta _ m_56) (ty := .long) rfl hK hP hD hS hA (a0 := (481, .inr (.inl (fun _ => 0)))) (N' := 481) (fun _ => rfl) (by decide) (by decide) (by decide) (Nat.le_of_ble_eq_true rfl) (Nat.le_of_ble_eq_true rfl) dM_init_78 (fun q9 k9 H hK hP hD hS => ?_)
  have hP : va_P (dC, dI) vwCl [(h0, .inr (2, [.int 0, .int 0, .int 0, .ref q1, .int 0, .ref q2, .ref q3, .ref q4, .ref q5, .ref q6, .int 0, .int 0, .int 0, .long 1, .ref q7, .ref q8, .null, .null, .int 0])), (q1, .inl (k1, 12, .inr (.inl (fun _ => 0)))), (q2, .inl (k2, 12, .inl (fun _ => 0))), (q3, .inl (k3, 12, .inl (fun _ => 0))), (q4, .inl (k4, 12, .inr (.inl (fun _ => 0)))), (q5, .inl (k5, 144, .inr (.inl (fun _ => 0)))), (q6, .inl (k6, 12, .inl (fun _ => 0))), (q7, .inl (k7, 37, .inl (fun _ => 0))), (q8, .inl (k8, 12, .inl (fun _ => 0))), (q9, .inl (k9, 481, .inr (.inl (fun _ => 0))))] H := hP
  have hD : va_D A [(h0, .inr (2, [.int 0, .int 0, .int 0, .ref q1, .int 0, .ref q2, .ref q3, .ref q4, .ref q5, .ref q6, .int 0, .int 0, .int 0, .long 1, .ref q7, .ref q8, .null, .null, .int 0])), (q1, .inl (k1, 12, .inr (.inl (fun _ => 0)))), (q2, .inl (k2, 12, .inl (fun _ => 0))), (q3, .inl (k3, 12, .inl (fun _ => 0))), (q4, .inl (k4, 12, .inr (.inl (fun _ => 0)))), (q5, .inl (k5, 144, .inr (.inl (fun _ => 0)))), (q6, .inl (k6, 12, .inl (fun _ => 0))), (q7, .inl (k7, 37, .inl (fun _ => 0))), (q8, .inl (k8, 12, .inl (fun _ => 0))), (q9, .inl (k9, 481, .inr (.inl (fun _ => 0))))] := hD
  have hK : va_K (dC, dI) vwCl [(k1, .long), (k2, .int), (k3, .int), (k4, .long), (k5, .long), (k6, .int), (k7, .int), (k8, .int), (k9, .long)] s := hK
  refine W.widen (k := 9) (n := 734) (Nat.le_of_ble_eq_true rfl) (Nat.le_of_ble_eq_true rfl) ?_
  refine va_putF (D := (dC, dI)) (ci := 2) (v := .ref q9) (ty := .array .long) (C := RM) (T := FM) (N := 19) hx hb hta iM tM tM_ok nM hown hK hP hD hS 0 rfl rfl 16 (by decide) (hta _ m_508) (fun _ h9 => h9) rfl hin rfl (by decide +kernel) rfl rfl (Nat.le_of_ble_eq_true rfl) dM_init_80 (fun H locs hP hD hS => ?_)
  have hP : va_P (dC, dI) vwCl [(h0, .inr (2, [.int 0, .int 0, .int 0, .ref q1, .int 0, .ref q2, .ref q3, .ref q4, .ref q5, .ref q6, .int 0, .int 0, .int 0, .long 1, .ref q7, .ref q8, .ref q9, .null, .int 0])), (q1, .inl (k1, 12, .inr (.inl (fun _ => 0)))), (q2, .inl (k2, 12, .inl (fun _ => 0))), (q3, .inl (k3, 12, .inl (fun _ => 0))), (q4, .inl (k4, 12, .inr (.inl (fun _ => 0)))), (q5, .inl (k5, 144, .inr (.inl (fun _ => 0)))), (q6, .inl (k6, 12, .inl (fun _ => 0))), (q7, .inl (k7, 37, .inl (fun _ => 0))), (q8, .inl (k8, 12, .inl (fun _ => 0))), (q9, .inl (k9, 481, .inr (.inl (fun _ => 0))))] H := hP
  have hD : va_D A [(h0, .inr (2, [.int 0, .int 0, .int 0, .ref q1, .int 0, .ref q2, .ref q3, .ref q4, .ref q5, .ref q6, .int 0, .int 0, .int 0, .long 1, .ref q7, .ref q8, .ref q9, .null, .int 0])), (q1, .inl (k1, 12, .inr (.inl (fun _ => 0)))), (q2, .inl (k2, 12, .inl (fun _ => 0))), (q3, .inl (k3, 12, .inl (fun _ => 0))), (q4, .inl (k4, 12, .inr (.inl (fun _ => 0)))), (q5, .inl (k5, 144, .inr (.inl (fun _ => 0)))), (q6, .inl (k6, 12, .inl (fun _ => 0))), (q7, .inl (k7, 37, .inl (fun _ => 0))), (q8, .inl (k8, 12, .inl (fun _ => 0))), (q9, .inl (k9, 481, .inr (.inl (fun _ => 0))))] := hD
  refine lv_aload_n hx hb dM_init_83 rfl (lv_at hl 0 rfl) ?_
  refine lv_sipush (v := nI 481) hx hb dM_init_84 (by decide) ?_
  refine va_newa (atype := .long) hx hb (hta _ m_56) (ty := .long) rfl hK hP hD hS hA (a0 := (481, .inr (.inl (fun _ => 0)))) (N' := 481) (fun _ => rfl) (by decide) (by decide) (by decide) (Nat.le_of_ble_eq_true rfl) (Nat.le_of_ble_eq_true rfl) dM_init_87 (fun q10 k10 H hK hP hD hS => ?_)
  have hP : va_P (dC, dI) vwCl [(h0, .inr (2, [.int 0, .int 0, .int 0, .ref q1, .int 0, .ref q2, .ref q3, .ref q4, .ref q5, .ref q6, .int 0, .int 0, .int 0, .long 1, .ref q7, .ref q8, .ref q9, .null, .int 0])), (q1, .inl (k1, 12, .inr (.inl (fun _ => 0)))), (q2, .inl (k2, 12, .inl (fun _ => 0))), (q3, .inl (k3, 12, .inl (fun _ => 0))), (q4, .inl (k4, 12, .inr (.inl (fun _ => 0)))), (q5, .inl (k5, 144, .inr (.inl (fun _ => 0)))), (q6, .inl (k6, 12, .inl (fun _ => 0))), (q7, .inl (k7, 37, .inl (fun _ => 0))), (q8, .inl (k8, 12, .inl (fun _ => 0))), (q9, .inl (k9, 481, .inr (.inl (fun _ => 0)))), (q10, .inl (k10, 481, .inr (.inl (fun _ => 0))))] H := hP
  have hD : va_D A [(h0, .inr (2, [.int 0, .int 0, .int 0, .ref q1, .int 0, .ref q2, .ref q3, .ref q4, .ref q5, .ref q6, .int 0, .int 0, .int 0, .long 1, .ref q7, .ref q8, .ref q9, .null, .int 0])), (q1, .inl (k1, 12, .inr (.inl (fun _ => 0)))), (q2, .inl (k2, 12, .inl (fun _ => 0))), (q3, .inl (k3, 12, .inl (fun _ => 0))), (q4, .inl (k4, 12, .inr (.inl (fun _ => 0)))), (q5, .inl (k5, 144, .inr (.inl (fun _ => 0)))), (q6, .inl (k6, 12, .inl (fun _ => 0))), (q7, .inl (k7, 37, .inl (fun _ => 0))), (q8, .inl (k8, 12, .inl (fun _ => 0))), (q9, .inl (k9, 481, .inr (.inl (fun _ => 0)))), (q10, .inl (k10, 481, .inr (.inl (fun _ => 0))))] := hD
  have hK : va_K (dC, dI) vwCl [(k1, .long), (k2, .int), (k3, .int), (k4, .long), (k5, .long), (k6, .int), (k7, .int), (k8, .int), (k9, .long), (k10, .long)] s := hK
  refine W.widen (k := 10) (n := 1215) (Nat.le_of_ble_eq_true rfl) (Nat.le_of_ble_eq_true rfl) ?_
  refine va_putF (D := (dC, dI)) (ci := 2) (v := .ref q10) (ty := .array .long) (C := RM) (T := FM) (N := 19) hx hb hta iM tM tM_ok nM hown hK hP hD hS 0 rfl rfl 17 (by decide) (hta _ m_509) (fun _ h9 => h9) rfl hin rfl (by decide +kernel) rfl rfl (Nat.le_of_ble_eq_true rfl) dM_init_89 (fun H locs hP hD hS => ?_)
  have hP : va_P (dC, dI) vwCl [(h0, .inr (2, [.int 0, .int 0, .int 0, .ref q1, .int 0, .ref q2, .ref q3, .ref q4, .ref q5, .ref q6, .int 0, .int 0, .int 0, .long 1, .ref q7, .ref q8, .ref q9, .ref q10, .int 0])), (q1, .inl (k1, 12, .inr (.inl (fun _ => 0)))), (q2, .inl (k2, 12, .inl (fun _ => 0))), (q3, .inl (k3, 12, .inl (fun _ => 0))), (q4, .inl (k4, 12, .inr (.inl (fun _ => 0)))), (q5, .inl (k5, 144, .inr (.inl (fun _ => 0)))), (q6, .inl (k6, 12, .inl (fun _ => 0))), (q7, .inl (k7, 37, .inl (fun _ => 0))), (q8, .inl (k8, 12, .inl (fun _ => 0))), (q9, .inl (k9, 481, .inr (.inl (fun _ => 0)))), (q10, .inl (k10, 481, .inr (.inl (fun _ => 0))))] H := hP
  have hD : va_D A [(h0, .inr (2, [.int 0, .int 0, .int 0, .ref q1, .int 0, .ref q2, .ref q3, .ref q4, .ref q5, .ref q6, .int 0, .int 0, .int 0, .long 1, .ref q7, .ref q8, .ref q9, .ref q10, .int 0])), (q1, .inl (k1, 12, .inr (.inl (fun _ => 0)))), (q2, .inl (k2, 12, .inl (fun _ => 0))), (q3, .inl (k3, 12, .inl (fun _ => 0))), (q4, .inl (k4, 12, .inr (.inl (fun _ => 0)))), (q5, .inl (k5, 144, .inr (.inl (fun _ => 0)))), (q6, .inl (k6, 12, .inl (fun _ => 0))), (q7, .inl (k7, 37, .inl (fun _ => 0))), (q8, .inl (k8, 12, .inl (fun _ => 0))), (q9, .inl (k9, 481, .inr (.inl (fun _ => 0)))), (q10, .inl (k10, 481, .inr (.inl (fun _ => 0))))] := hD
  refine lv_aload_n hx hb dM_init_92 rfl (lv_at hl 0 rfl) ?_
  refine lv_iconst (v := (-1)) hx hb dM_init_93 (by decide) ?_
  refine va_put (D := (dC, dI)) (ci := 2) (v := .int (-1)) (ty := .int) (C := RM) (T := FM) (N := 19) hx hb hta iM tM tM_ok nM hown hK hP hD hS 0 rfl rfl 18 (by decide) (hta _ m_510) (fun _ h9 => h9) rfl (by decide +kernel) rfl rfl (Nat.le_of_ble_eq_true rfl) dM_init_94 (fun H locs hP hD hS => ?_)
  have hP : va_P (dC, dI) vwCl [(h0, .inr (2, [.int 0, .int 0, .int 0, .ref q1, .int 0, .ref q2, .ref q3, .ref q4, .ref q5, .ref q6, .int 0, .int 0, .int 0, .long 1, .ref q7, .ref q8, .ref q9, .ref q10, .int (-1)])), (q1, .inl (k1, 12, .inr (.inl (fun _ => 0)))), (q2, .inl (k2, 12, .inl (fun _ => 0))), (q3, .inl (k3, 12, .inl (fun _ => 0))), (q4, .inl (k4, 12, .inr (.inl (fun _ => 0)))), (q5, .inl (k5, 144, .inr (.inl (fun _ => 0)))), (q6, .inl (k6, 12, .inl (fun _ => 0))), (q7, .inl (k7, 37, .inl (fun _ => 0))), (q8, .inl (k8, 12, .inl (fun _ => 0))), (q9, .inl (k9, 481, .inr (.inl (fun _ => 0)))), (q10, .inl (k10, 481, .inr (.inl (fun _ => 0))))] H := hP
  have hD : va_D A [(h0, .inr (2, [.int 0, .int 0, .int 0, .ref q1, .int 0, .ref q2, .ref q3, .ref q4, .ref q5, .ref q6, .int 0, .int 0, .int 0, .long 1, .ref q7, .ref q8, .ref q9, .ref q10, .int (-1)])), (q1, .inl (k1, 12, .inr (.inl (fun _ => 0)))), (q2, .inl (k2, 12, .inl (fun _ => 0))), (q3, .inl (k3, 12, .inl (fun _ => 0))), (q4, .inl (k4, 12, .inr (.inl (fun _ => 0)))), (q5, .inl (k5, 144, .inr (.inl (fun _ => 0)))), (q6, .inl (k6, 12, .inl (fun _ => 0))), (q7, .inl (k7, 37, .inl (fun _ => 0))), (q8, .inl (k8, 12, .inl (fun _ => 0))), (q9, .inl (k9, 481, .inr (.inl (fun _ => 0)))), (q10, .inl (k10, 481, .inr (.inl (fun _ => 0))))] := hD
  have join119 : ∀ (ls : Array Slot), lv_has ls 3 [(0, .ref h0), (1, .int x)] → W p l e (headSpec wM_init ({ frames := 1, cells := 10, slots := 1215, locals := 12 })).room s m ([.ref h0, .int x] : List Value).toArray below meth c H locs 10 1215 (MQ below (va_Qv (fun u : (Nat → Nat) × (Nat → ClassId) => u.1 0 = h0) (fun u t => va_P (dC, dI) vwCl (MW u.1 u.2 (M0 x)) t.heap ∧ va_K (dC, dI) vwCl (MK u.2) t ∧ va_D A (MW u.1 u.2 (M0 x))) A) ([.ref h0, .int x] : List Value).toArray s 10 1215 A) (F0 m 119 ls [.int (wkM x), .ref h0]) := by
    intro ls hl
    refine va_putF (D := (dC, dI)) (ci := 2) (v := .int (wkM x)) (ty := .int) (C := RM) (T := FM) (N := 19) hx hb hta iM tM tM_ok nM hown hK hP hD hS 0 rfl rfl 1 (by decide) (hta _ m_493) (fun _ h9 => h9) rfl hin rfl (by decide +kernel) rfl rfl (Nat.le_of_ble_eq_true rfl) dM_init_119 (fun H locs hP hD hS => ?_)
    have hP : va_P (dC, dI) vwCl [(h0, .inr (2, [.int 0, .int (wkM x), .int 0, .ref q1, .int 0, .ref q2, .ref q3, .ref q4, .ref q5, .ref q6, .int 0, .int 0, .int 0, .long 1, .ref q7, .ref q8, .ref q9, .ref q10, .int (-1)])), (q1, .inl (k1, 12, .inr (.inl (fun _ => 0)))), (q2, .inl (k2, 12, .inl (fun _ => 0))), (q3, .inl (k3, 12, .inl (fun _ => 0))), (q4, .inl (k4, 12, .inr (.inl (fun _ => 0)))), (q5, .inl (k5, 144, .inr (.inl (fun _ => 0)))), (q6, .inl (k6, 12, .inl (fun _ => 0))), (q7, .inl (k7, 37, .inl (fun _ => 0))), (q8, .inl (k8, 12, .inl (fun _ => 0))), (q9, .inl (k9, 481, .inr (.inl (fun _ => 0)))), (q10, .inl (k10, 481, .inr (.inl (fun _ => 0))))] H := hP
    have hD : va_D A [(h0, .inr (2, [.int 0, .int (wkM x), .int 0, .ref q1, .int 0, .ref q2, .ref q3, .ref q4, .ref q5, .ref q6, .int 0, .int 0, .int 0, .long 1, .ref q7, .ref q8, .ref q9, .ref q10, .int (-1)])), (q1, .inl (k1, 12, .inr (.inl (fun _ => 0)))), (q2, .inl (k2, 12, .inl (fun _ => 0))), (q3, .inl (k3, 12, .inl (fun _ => 0))), (q4, .inl (k4, 12, .inr (.inl (fun _ => 0)))), (q5, .inl (k5, 144, .inr (.inl (fun _ => 0)))), (q6, .inl (k6, 12, .inl (fun _ => 0))), (q7, .inl (k7, 37, .inl (fun _ => 0))), (q8, .inl (k8, 12, .inl (fun _ => 0))), (q9, .inl (k9, 481, .inr (.inl (fun _ => 0)))), (q10, .inl (k10, 481, .inr (.inl (fun _ => 0))))] := hD
    have hP : va_P (dC, dI) vwCl (MW (mo11 h0 q1 q2 q3 q4 q5 q6 q7 q8 q9 q10) (km11 k1 k2 k3 k4 k5 k6 k7 k8 k9 k10) (ms 0 (wkM x) 0 (fun _ => 0) 0 (fun _ => 0) (fun _ => 0) (fun _ => 0) (fun _ => 0) (fun _ => some 0) 0 false 0 1 (fun _ => some 0) (fun _ => 0) (fun _ => 0) (fun _ => 0) none)) H := hP
    have hD : va_D A (MW (mo11 h0 q1 q2 q3 q4 q5 q6 q7 q8 q9 q10) (km11 k1 k2 k3 k4 k5 k6 k7 k8 k9 k10) (ms 0 (wkM x) 0 (fun _ => 0) 0 (fun _ => 0) (fun _ => 0) (fun _ => 0) (fun _ => 0) (fun _ => some 0) 0 false 0 1 (fun _ => some 0) (fun _ => 0) (fun _ => 0) (fun _ => 0) none)) := hD
    have hK : va_K (dC, dI) vwCl (MK (km11 k1 k2 k3 k4 k5 k6 k7 k8 k9 k10)) s := hK
    have h0e : mo11 h0 q1 q2 q3 q4 q5 q6 q7 q8 q9 q10 0 = h0 := rfl
    generalize mo11 h0 q1 q2 q3 q4 q5 q6 q7 q8 q9 q10 = mo at hP hD h0e
    generalize km11 k1 k2 k3 k4 k5 k6 k7 k8 k9 k10 = km at hP hD hK
    have hl : lv_has ls 3 [(0, .ref (mo 0)), (1, .int x)] := by rw [h0e]; exact hl
    refine lv_iconst (v := nI 0) hx hb dM_init_122 (by decide) ?_
    refine lv_istore_n (lv' := [(2, .int (nI 0)), (0, .ref (mo 0)), (1, .int x)]) hx hb dM_init_123 rfl hl (by decide) rfl (fun ls hl => ?_)
    have loop124 : ∀ (n : Nat) (i : Nat) (f : Nat → Option Nat) (H : Heap) (locs : List Loc) (ls : Array Slot), (i + n = 37) → (noL i n f = noL 0 37 (fun _ => some 0)) → va_P (dC, dI) vwCl (MW mo km (ms 0 (wkM x) 0 (fun _ => 0) 0 (fun _ => 0) (fun _ => 0) (fun _ => 0) (fun _ => 0) (fun _ => some 0) 0 false 0 1 f (fun _ => 0) (fun _ => 0) (fun _ => 0) none)) H → va_D A (MW mo km (ms 0 (wkM x) 0 (fun _ => 0) 0 (fun _ => 0) (fun _ => 0) (fun _ => 0) (fun _ => 0) (fun _ => some 0) 0 false 0 1 f (fun _ => 0) (fun _ => 0) (fun _ => 0) none)) → va_S A s.heap H locs → lv_has ls 3 [(2, .int (nI i)), (0, .ref (mo 0)), (1, .int x)] → W p l e (headSpec wM_init ({ frames := 1, cells := 10, slots := 1215, locals := 12 })).room s m ([.ref h0, .int x] : List Value).toArray below meth c H locs 10 1215 (MQ below (va_Qv (fun u : (Nat → Nat) × (Nat → ClassId) => u.1 0 = h0) (fun u t => va_P (dC, dI) vwCl (MW u.1 u.2 (M0 x)) t.heap ∧ va_K (dC, dI) vwCl (MK u.2) t ∧ va_D A (MW u.1 u.2 (M0 x))) A) ([.ref h0, .int x] : List Value).toArray s 10 1215 A) (F0 m 124 ls []) := by
      intro n
      induction n with
      | zero =>
        intro i f H locs ls hn hq124 hP hD hS hl
        refine lv_iload_n hx hb dM_init_124 rfl (lv_at hl 0 rfl) ?_
        refine lv_bipush (v := nI 37) hx hb dM_init_125 (by decide) ?_
        refine ni_ge (tgt := 143) hx hb dM_init_127 (by decide) (by omega) (by omega) (fun c_1 => ?_) (fun c_1 => ?_)
        · have ep : f = noL 0 37 (fun _ => some 0) := hq124
          subst ep
          refine lv_iconst (v := nI 0) hx hb dM_init_143 (by decide) ?_
          refine lv_istore_n (lv' := [(2, .int (nI 0)), (0, .ref (mo 0)), (1, .int x)]) hx hb dM_init_144 rfl hl (by decide) rfl (fun ls hl => ?_)
          have loop145 : ∀ (n : Nat) (i : Nat) (f : Nat → Option Nat) (H : Heap) (locs : List Loc) (ls : Array Slot), (i + n = 12) → (noL i n f = noL 0 12 (fun _ => some 0)) → va_P (dC, dI) vwCl (MW mo km (ms 0 (wkM x) 0 (fun _ => 0) 0 (fun _ => 0) (fun _ => 0) (fun _ => 0) (fun _ => 0) f 0 false 0 1 (noL 0 37 (fun _ => some 0)) (fun _ => 0) (fun _ => 0) (fun _ => 0) none)) H → va_D A (MW mo km (ms 0 (wkM x) 0 (fun _ => 0) 0 (fun _ => 0) (fun _ => 0) (fun _ => 0) (fun _ => 0) f 0 false 0 1 (noL 0 37 (fun _ => some 0)) (fun _ => 0) (fun _ => 0) (fun _ => 0) none)) → va_S A s.heap H locs → lv_has ls 3 [(2, .int (nI i)), (0, .ref (mo 0)), (1, .int x)] → W p l e (headSpec wM_init ({ frames := 1, cells := 10, slots := 1215, locals := 12 })).room s m ([.ref h0, .int x] : List Value).toArray below meth c H locs 10 1215 (MQ below (va_Qv (fun u : (Nat → Nat) × (Nat → ClassId) => u.1 0 = h0) (fun u t => va_P (dC, dI) vwCl (MW u.1 u.2 (M0 x)) t.heap ∧ va_K (dC, dI) vwCl (MK u.2) t ∧ va_D A (MW u.1 u.2 (M0 x))) A) ([.ref h0, .int x] : List Value).toArray s 10 1215 A) (F0 m 145 ls []) := by
            intro n
            induction n with
            | zero =>
              intro i f H locs ls hn hq145 hP hD hS hl
              refine lv_iload_n hx hb dM_init_145 rfl (lv_at hl 0 rfl) ?_
              refine lv_bipush (v := nI 12) hx hb dM_init_146 (by decide) ?_
              refine ni_ge (tgt := 164) hx hb dM_init_148 (by decide) (by omega) (by omega) (fun c_2 => ?_) (fun c_2 => ?_)
              · exact W.vret hx hb hr (fun t ht hW => ⟨⟨(mo, km), rfl, h0e, by rw [ht, M0, ← hq145]; exact hP, va_K.moved hW.alike hK, by rw [M0, ← hq145]; exact hD⟩, hS.F ht⟩) hS.2.2 dM_init_164
              · exfalso; omega
            | succ n ih =>
              intro i f H locs ls hn hq145 hP hD hS hl
              refine lv_iload_n hx hb dM_init_145 rfl (lv_at hl 0 rfl) ?_
              refine lv_bipush (v := nI 12) hx hb dM_init_146 (by decide) ?_
              refine ni_ge (tgt := 164) hx hb dM_init_148 (by decide) (by omega) (by omega) (fun c_3 => ?_) (fun c_3 => ?_)
              · exfalso; omega
              · refine lv_aload_n hx hb dM_init_151 rfl (lv_at hl 1 rfl) ?_
                refine va_get (D := (dC, dI)) (ci := 2) (v := .ref (mo 6)) (C := RM) (T := FM) (N := 19) hx hb hta iM hown hK hP 0 rfl rfl 9 (by decide) (hta _ m_501) (fun _ h9 => h9) rfl dM_init_152 ?_
                refine lv_iload_n hx hb dM_init_155 rfl (lv_at hl 0 rfl) ?_
                refine lv_iconst (v := (-1)) hx hb dM_init_156 (by decide) ?_
                refine na_iast hx hb hK hP hD hS 6 5 rfl rfl (i := i) (x := enc none) (by omega) (by decide) dM_init_157 (fun H locs hP hD hS => ?_)
                rw [encF_up] at hP hD
                have hP : va_P (dC, dI) vwCl (MW mo km (ms 0 (wkM x) 0 (fun _ => 0) 0 (fun _ => 0) (fun _ => 0) (fun _ => 0) (fun _ => 0) (va_up f i none) 0 false 0 1 (noL 0 37 (fun _ => some 0)) (fun _ => 0) (fun _ => 0) (fun _ => 0) none)) H := hP
                have hD : va_D A (MW mo km (ms 0 (wkM x) 0 (fun _ => 0) 0 (fun _ => 0) (fun _ => 0) (fun _ => 0) (fun _ => 0) (va_up f i none) 0 false 0 1 (noL 0 37 (fun _ => some 0)) (fun _ => 0) (fun _ => 0) (fun _ => 0) none)) := hD
                refine lv_iinc (v := nI (i + 1)) (lv' := [(2, .int (nI (i + 1))), (0, .ref (mo 0)), (1, .int x)]) hx hb dM_init_158 hl (k := 0) rfl (nI_add i 1) (by decide) rfl (fun ls hl => ?_)
                refine lv_goto (tgt := 145) hx hb dM_init_161 (by decide) ?_
                exact ih (i + 1) (va_up f i none) H locs ls (by omega) (by rw [← hq145]; rfl) hP hD hS (lv_sub hl [0, 1, 2] rfl)
          exact loop145 12 0 (fun _ => some 0) H locs ls (by omega) rfl hP hD hS (lv_sub hl [0, 1, 2] rfl)
        · exfalso; omega
      | succ n ih =>
        intro i f H locs ls hn hq124 hP hD hS hl
        refine lv_iload_n hx hb dM_init_124 rfl (lv_at hl 0 rfl) ?_
        refine lv_bipush (v := nI 37) hx hb dM_init_125 (by decide) ?_
        refine ni_ge (tgt := 143) hx hb dM_init_127 (by decide) (by omega) (by omega) (fun c_4 => ?_) (fun c_4 => ?_)
        · exfalso; omega
        · refine lv_aload_n hx hb dM_init_130 rfl (lv_at hl 1 rfl) ?_
          refine va_get (D := (dC, dI)) (ci := 2) (v := .ref (mo 7)) (C := RM) (T := FM) (N := 19) hx hb hta iM hown hK hP 0 rfl rfl 14 (by decide) (hta _ m_506) (fun _ h9 => h9) rfl dM_init_131 ?_
          refine lv_iload_n hx hb dM_init_134 rfl (lv_at hl 0 rfl) ?_
          refine lv_iconst (v := (-1)) hx hb dM_init_135 (by decide) ?_
          refine na_iast hx hb hK hP hD hS 7 6 rfl rfl (i := i) (x := enc none) (by omega) (by decide) dM_init_136 (fun H locs hP hD hS => ?_)
          rw [encF_up] at hP hD
          have hP : va_P (dC, dI) vwCl (MW mo km (ms 0 (wkM x) 0 (fun _ => 0) 0 (fun _ => 0) (fun _ => 0) (fun _ => 0) (fun _ => 0) (fun _ => some 0) 0 false 0 1 (va_up f i none) (fun _ => 0) (fun _ => 0) (fun _ => 0) none)) H := hP
          have hD : va_D A (MW mo km (ms 0 (wkM x) 0 (fun _ => 0) 0 (fun _ => 0) (fun _ => 0) (fun _ => 0) (fun _ => 0) (fun _ => some 0) 0 false 0 1 (va_up f i none) (fun _ => 0) (fun _ => 0) (fun _ => 0) none)) := hD
          refine lv_iinc (v := nI (i + 1)) (lv' := [(2, .int (nI (i + 1))), (0, .ref (mo 0)), (1, .int x)]) hx hb dM_init_137 hl (k := 0) rfl (nI_add i 1) (by decide) rfl (fun ls hl => ?_)
          refine lv_goto (tgt := 124) hx hb dM_init_140 (by decide) ?_
          exact ih (i + 1) (va_up f i none) H locs ls (by omega) (by rw [← hq124]; rfl) hP hD hS (lv_sub hl [0, 1, 2] rfl)
    exact loop124 37 0 (fun _ => some 0) H locs ls (by omega) rfl hP hD hS (lv_sub hl [0, 1, 2] rfl)
  refine lv_aload_n hx hb dM_init_97 rfl (lv_at hl 0 rfl) ?_
  refine lv_iload_n hx hb dM_init_98 rfl (lv_at hl 1 rfl) ?_
  refine lv_iconst (v := 1) hx hb dM_init_99 (by decide) ?_
  refine li_ge (tgt := 107) hx hb dM_init_100 (by decide) (fun h1 => ?_) (fun h1 => ?_)
  · refine lv_iload_n hx hb dM_init_107 rfl (lv_at hl 1 rfl) ?_
    refine lv_bipush (v := 60) hx hb dM_init_108 (by decide) ?_
    refine li_le (tgt := 118) hx hb dM_init_110 (by decide) (fun h2 => ?_) (fun h2 => ?_)
    · refine lv_iload_n hx hb dM_init_118 rfl (lv_at hl 1 rfl) ?_
      refine st_i (y := wkM x) (by first | (rw [wkM, if_pos h1]; done) | (rw [wkM, if_neg h1, if_pos h2]; done) | (rw [wkM, if_neg h1, if_neg h2]; done)) ?_
      exact join119 ls (lv_sub hl [0, 1] rfl)
    · refine lv_bipush (v := 60) hx hb dM_init_113 (by decide) ?_
      refine lv_goto (tgt := 119) hx hb dM_init_115 (by decide) ?_
      refine st_i (y := wkM x) (by first | (rw [wkM, if_pos h1]; done) | (rw [wkM, if_neg h1, if_pos h2]; done) | (rw [wkM, if_neg h1, if_neg h2]; done)) ?_
      exact join119 ls (lv_sub hl [0, 1] rfl)
  · refine lv_iconst (v := 1) hx hb dM_init_103 (by decide) ?_
    refine lv_goto (tgt := 119) hx hb dM_init_104 (by decide) ?_
    refine st_i (y := wkM x) (by first | (rw [wkM, if_pos h1]; done) | (rw [wkM, if_neg h1, if_pos h2]; done) | (rw [wkM, if_neg h1, if_neg h2]; done)) ?_
    exact join119 ls (lv_sub hl [0, 1] rfl)
