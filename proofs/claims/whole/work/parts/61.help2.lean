/-! methods that throw: what they need of the state, what they leave (every throw comes ahead of the first write: the old heap stays) -/
section HX
variable {p : Program} {l : Launch} {e : Env} {R : Room} {s : State} {m : MethodId} {args : Array Value} {below : List Frame} {meth : Method} {c : Code} {H : Heap} {locs : List Loc} {cells slots : Nat} {Q : State → Prop} {cc : ByteArray} {pc : Nat} {ls : Array Slot} {rest : List Value}
variable {D : va_G} {cl : List vw_C} {tys : List (ClassId × FieldType)} {ws : va_W} {A : Nat → Prop} {H0 : Heap} {X : State → Prop}
def kp (st t : State) : Prop := st.heap.size ≤ t.heap.size ∧ ∀ q : Nat, q < st.heap.size → t.heap[q]? = st.heap[q]?
def xX (err : Option String) : String → State → State → Prop := fun E st t => err = some E ∧ kp st t
def xR (err : Option String) (v : Option Value) : Array Value → State → Outcome → State → Prop := fun _ st o t => err = none ∧ o = .returned v ∧ t.heap = st.heap
def xQ (err : Option String) (v : Option Value) (D : va_G) (cl : List vw_C) (ws' : va_W) (A : Nat → Prop) : Array Value → State → Outcome → State → Prop := fun a st o t => err = none ∧ wQ v D cl ws' A a st o t
theorem xr_call {g : JFrame} {v : Option Value} {av : Array Value} {err : Option String} {mc ms : Nat} (hr : vx_Run p l e R s m args below meth c H locs cells slots mc ms g rest (xR err v av) (xX err) (fun _ => False))
    (kx : ∀ (E : String) (ce : Cell) (q9 : Addr) (H1 : Heap), err = some E → H.size ≤ H1.size → (∀ q : Nat, q < H.size → H1[q]? = H[q]?) → H1[q9]? = some ce → ce.vm = .none → s.vm.findClass E = some ce.cls → vx_W p l e R s m args below meth c H1 locs (cells + mc) (slots + ms) Q { g with stack := rest } q9)
    (kk : err = none → W p l e R s m args below meth c H locs (cells + mc) (slots + ms) Q { g with pc := g.pc + 3, stack := v.toList ++ rest }) : W p l e R s m args below meth c H locs cells slots Q g := by
  intro T hT X9
  rcases hr T hT X9 with ⟨v2, st₀, t, T', L, h0, X', hL, e1, e2, ⟨he, hv, hh⟩, st⟩ | ⟨q, st₀, t, T', L, E, ce, h0, X', hL, e1, e2, ⟨he, hz, hk⟩, hce, hcv, hcl, st⟩
  · cases hv
    obtain ⟨t2, a1, b1⟩ := kk he T' (by rw [e1, hh, h0]) (Stand.forget X' (fun q h => (hL q h).elim))
    exact ⟨t2, st t2 a1, b1⟩
  · rw [h0] at hz hk
    obtain ⟨t2, a1, b1⟩ := kx E ce q T'.heap he (by rw [e1]; exact hz) (fun q h => by rw [e1]; exact hk q h) (by rw [e1]; exact hce) hcv hcl T' rfl (Stand.forget X' (fun q h => (hL q h).elim))
    exact ⟨t2, st.trans a1, b1⟩
end HX
