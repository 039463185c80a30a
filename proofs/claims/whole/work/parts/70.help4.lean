/-! the law's helpers: the class's cells, and the answer's cell ahead of them -/
def OW (oa : Nat) (ko : ClassId) (o : Nat → Int64) : va_W := [(oa, .inl (ko, 1, .inr (.inl o)))]
abbrev bL_law : ByteArray := code
def OQ (ko : ClassId) : List (ClassId × FieldType) := [(ko, .long)]
def oU (n : Nat) (o : Nat → Int64) (v : Int64) : Nat → Int64 := if n = 0 then vp_updL o 0 v else o
section HH
variable {p : Program} {l : Launch} {e : Env} {R : Room} {s : State} {m : MethodId} {args : Array Value} {below : List Frame} {meth : Method} {c : Code} {H : Heap} {locs : List Loc} {cells slots : Nat} {Q : State → Prop} {cc : ByteArray} {pc : Nat} {ls : Array Slot} {rest : List Value}
variable {D : va_G} {cl : List vw_C} {tys : List (ClassId × FieldType)} {ws : va_W} {A : Nat → Prop} {H0 : Heap} {X : State → Prop}
def hPc (av : List Value) (sz : Nat) (D : va_G) (cl : List vw_C) (ws : va_W) (tys : List (ClassId × FieldType)) : Array Value → State → Prop := va_Pc av (fun U => U.heap.size = sz ∧ va_P D cl ws U.heap ∧ va_K D cl tys U ∧ va_D (fun _ => True) ws ∧ nW U ∧ sW U ∧ zW U U.heap)
theorem hPc.blind {av : List Value} {sz : Nat} : FrameBlind (hPc av sz D cl ws tys) := fun a U g mk q => by
  obtain ⟨q0, q1, qP, qK, qD, qX, qs, qz⟩ := q
  exact ⟨q0, q1, qP, va_K.moved (u := U) (U := U.calling g mk a) (Vm.Alike.refl U.vm) qK, qD, nW_ok.1 U (U.calling g mk a) rfl qX, sW_ok.1 U (U.calling g mk a) rfl qs, zW.moved (u := U) (U := U.calling g mk a) (Vm.Alike.refl U.vm) qz⟩
theorem hd_S {As : List Value} (hX : nW s) (hs : sW s) (hz : zW s H) (hK : va_K D cl tys s) (hP : va_P D cl ws H) (hD : va_D A ws) : PreS s H (hPc As H.size D cl ws tys) As :=
  ⟨hPc.blind, fun U hU hW => ⟨rfl, by rw [hU], by rw [hU]; exact hP, va_K.moved hW.alike hK, hD.weaken (fun _ _ _ _ => trivial), nW_ok.2 s U hW hX, sW_ok.2 s U hW hs, by rw [hU]; exact zW.moved hW.alike hz⟩⟩
theorem vx_va {mc ms : Nat} {g : JFrame} {Qa : State → Outcome → State → Prop} {free : Addr → Prop} (hr : vx_Run p l e R s m args below meth c H locs cells slots mc ms g rest Qa (fun _ _ _ => False) free) : va_Run p l e R s m args below meth c H locs cells slots mc ms g rest Qa free := by
  intro T hT X9
  rcases hr T hT X9 with h | ⟨q, st₀, t, T', L, E2, ce, h0, X', hL, e1, e2, hf, -⟩
  · exact h
  · exact hf.elim
theorem hP_new {H1 : Heap} (hP : va_P D cl ws H) (h : ∀ q : Nat, q < H.size → H1[q]? = H[q]?) : va_P D cl ws H1 := hP.kept (fun k q hq => h q.1 (hP k q hq).lt)
end HH
