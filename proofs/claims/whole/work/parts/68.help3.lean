/-! throws of the class: what they rest on beside the tables' good words -/
def eI : String := "java/lang/IndexOutOfBoundsException"
def eS : String := "java/lang/IllegalStateException"
def eA : String := "java/lang/IllegalArgumentException"
def chN : List String := ["java/lang/RuntimeException", "java/lang/Exception"]
section HT
variable {p : Program} {l : Launch} {e : Env} {R : Room} {s : State} {m : MethodId} {args : Array Value} {below : List Frame} {meth : Method} {c : Code} {H : Heap} {locs : List Loc} {cells slots : Nat} {Q : State → Prop} {cc : ByteArray} {pc : Nat} {ls : Array Slot} {rest : List Value}
variable {D : va_G} {cl : List vw_C} {tys : List (ClassId × FieldType)} {ws : va_W} {A : Nat → Prop} {H0 : Heap} {X : State → Prop}
def strL : List (Nat × String) := [(67, "no more columns, or a run was done"), (76, "no such cost"), (86, "no such kind"), (88, "no such week"), (105, "the row is in the table"), (107, "no such factor"), (112, "both are one column"), (118, "no such number of steps"), (159, "the latest run told no contradiction"), (180, "no such column"), (183, "no such row"), (185, "no more rows"), (191, "no such right side"), (193, "no such part")]
def tB : List Cond := [.castable eI eI, .castable eS eS, .castable eA eA, .declares ⟨"java/lang/RuntimeException", "<init>", "(Ljava/lang/String;)V"⟩, .declares ⟨"java/lang/Exception", "<init>", "(Ljava/lang/String;)V"⟩, .declares ⟨"java/lang/Throwable", "<init>", "(Ljava/lang/String;)V"⟩]
theorem tB_on {w : Cond} (h : w ∈ tB) : w.onTables = true := List.all_eq_true.mp (by decide +kernel : tB.all (fun w => w.onTables) = true) w h
def ncL : List (String × String) := [(eA, eS), (eI, eS), (eS, eA), (eI, eA), (eS, eI), (eA, eI)]
def sW (U : State) : Prop := (∀ q ∈ strL, ∃ a, vk_R RP q.1 q.2 a U) ∧ (∀ w ∈ tB, va_Nw w U) ∧ ∀ q ∈ ncL, va_Nc q.1 q.2 U
theorem sW_ok : xOK sW := by
  refine ⟨fun u U h q => ⟨fun z hz => ?_, fun w hw => va_Nw.same (tB_on hw) h (q.2.1 w hw), fun z hz => va_Nc.moved (by rw [h]; exact Vm.Alike.refl _) (q.2.2 z hz)⟩, fun u U h q => ⟨fun z hz => ?_, fun w hw => ?_, fun z hz => va_Nc.moved h.alike (q.2.2 z hz)⟩⟩
  · obtain ⟨a, ha⟩ := q.1 z hz
    exact ⟨a, vk_R.same h.symm ha⟩
  · obtain ⟨a, ha⟩ := q.1 z hz
    exact ⟨a, vk_R.warm h ha⟩
  · have hq := q.2.1 w hw
    simp only [tB, List.mem_cons, List.not_mem_nil, or_false] at hw
    rcases hw with rfl | rfl | rfl | rfl | rfl | rfl <;> first | exact va_Nw.warmC h hq | exact va_Nw.warmD h hq
def zW (U : State) (H : Heap) : Prop := vx_Zq Bundle.tN "UNASSIGNED_STACK" Bundle.steD (fun _ => False) U H ∧ vx_Zq Bundle.tN "SUPPRESSED_SENTINEL" Bundle.listD (fun _ => False) U H
theorem zW.moved {u U : State} {H : Heap} (h : u.vm.Alike U.vm) (q : zW u H) : zW U H := ⟨vx_Zq.moved h q.1, vx_Zq.moved h q.2⟩
def tPc (av : List Value) (D : va_G) (cl : List vw_C) (ws : va_W) (tys : List (ClassId × FieldType)) : Array Value → State → Prop := va_Pc av (fun U => va_P D cl ws U.heap ∧ va_K D cl tys U ∧ nW U ∧ sW U ∧ zW U U.heap)
theorem tPc.blind {av : List Value} : FrameBlind (tPc av D cl ws tys) := fun a U g mk q => by
  obtain ⟨q0, qP, qK, qX, qs, qz⟩ := q
  exact ⟨q0, qP, va_K.moved (u := U) (U := U.calling g mk a) (Vm.Alike.refl U.vm) qK, nW_ok.1 U (U.calling g mk a) rfl qX, sW_ok.1 U (U.calling g mk a) rfl qs, zW.moved (u := U) (U := U.calling g mk a) (Vm.Alike.refl U.vm) qz⟩
theorem td_V {As : List Value} {b q0 ci : Nat} {q : vw_C} {fs : List Value} (hX : nW s) (hs : sW s) (hz : zW s H) (hK : va_K D cl tys s) (hP : va_P D cl ws H) (hc : cl[ci]? = some q) (he : ws[q0]? = some (b, .inr (ci, fs))) : PreV s H q.1 b (tPc (.ref b :: As) D cl ws tys) As :=
  ⟨tPc.blind, va_recv hK hP hc he, fun U hU hW => ⟨rfl, by rw [hU]; exact hP, va_K.moved hW.alike hK, nW_ok.2 s U hW hX, sW_ok.2 s U hW hs, by rw [hU]; exact zW.moved hW.alike hz⟩⟩
theorem td_S {As : List Value} (hX : nW s) (hs : sW s) (hz : zW s H) (hK : va_K D cl tys s) (hP : va_P D cl ws H) : PreS s H (tPc As D cl ws tys) As :=
  ⟨tPc.blind, fun U hU hW => ⟨rfl, by rw [hU]; exact hP, va_K.moved hW.alike hK, nW_ok.2 s U hW hX, sW_ok.2 s U hW hs, by rw [hU]; exact zW.moved hW.alike hz⟩⟩
theorem tx_call {g : JFrame} {E : String} {mc ms : Nat} (hr : vx_Run p l e R s m args below meth c H locs cells slots mc ms g rest (fun _ _ _ => False) (xX (some E)) (fun _ => False))
    (kx : ∀ (ce : Cell) (q9 : Addr) (H1 : Heap), H.size ≤ H1.size → (∀ q : Nat, q < H.size → H1[q]? = H[q]?) → H1[q9]? = some ce → ce.vm = .none → s.vm.findClass E = some ce.cls → vx_W p l e R s m args below meth c H1 locs (cells + mc) (slots + ms) Q { g with stack := rest } q9) : W p l e R s m args below meth c H locs cells slots Q g := by
  intro T hT X9
  rcases hr T hT X9 with ⟨v2, st₀, t, T', L, h0, X', hL, e1, e2, hf, st⟩ | ⟨q, st₀, t, T', L, E2, ce, h0, X', hL, e1, e2, ⟨he, hz, hk⟩, hce, hcv, hcl, st⟩
  · exact hf.elim
  · cases he
    rw [h0] at hz hk
    obtain ⟨t2, a1, b1⟩ := kx ce q T'.heap (by rw [e1]; exact hz) (fun q h => by rw [e1]; exact hk q h) (by rw [e1]; exact hce) hcv hcl T' rfl (Stand.forget X' (fun q h => (hL q h).elim))
    exact ⟨t2, st.trans a1, b1⟩
theorem in_AW {L : List Cond} (h1 : ∀ w ∈ L, w ∈ lw_tbl) : ∀ w ∈ L.filter goodWord, w ∈ AW := fun w h => List.mem_filter.mpr ⟨h1 w (List.mem_filter.mp h).1, (List.mem_filter.mp h).2⟩
end HT
theorem at_S : ∀ w ∈ (vx_atS RP 69 eS chN).filter goodWord, w ∈ AW := in_AW (by decide +kernel)
theorem bt_S : ∀ w ∈ (vx_atS RP 69 eS chN).filter (fun w => !goodWord w), w ∈ tB := by decide +kernel
theorem at_A : ∀ w ∈ (vx_atS RP 78 eA chN).filter goodWord, w ∈ AW := in_AW (by decide +kernel)
theorem bt_A : ∀ w ∈ (vx_atS RP 78 eA chN).filter (fun w => !goodWord w), w ∈ tB := by decide +kernel
theorem at_I : ∀ w ∈ (vx_atS RP 182 eI chN).filter goodWord, w ∈ AW := in_AW (by decide +kernel)
theorem bt_I : ∀ w ∈ (vx_atS RP 182 eI chN).filter (fun w => !goodWord w), w ∈ tB := by decide +kernel
theorem ot_S : ∀ w ∈ Cond.classLink RP 65 eS :: Cond.initialized eS :: vx_atS RP 69 eS chN, vx_ot w = true := List.all_eq_true.mp (by decide +kernel)
theorem ot_A : ∀ w ∈ Cond.classLink RP 74 eA :: Cond.initialized eA :: vx_atS RP 78 eA chN, vx_ot w = true := List.all_eq_true.mp (by decide +kernel)
theorem ot_I : ∀ w ∈ Cond.classLink RP 178 eI :: Cond.initialized eI :: vx_atS RP 182 eI chN, vx_ot w = true := List.all_eq_true.mp (by decide +kernel)
theorem ch_fit : ∀ n ∈ chN, Bundle.fit n = true := List.all_eq_true.mp (by decide +kernel)
theorem fit_S : Bundle.fit eS = true := by decide +kernel
theorem fit_A : Bundle.fit eA = true := by decide +kernel
theorem fit_I : Bundle.fit eI = true := by decide +kernel
theorem idx_nn {n : Nat} {x : Int32} (h : idx n x = none) (hn : n < 2 ^ 31) (h1 : ¬ x < 0) (h2 : x < nI n) : False := by
  rw [Int32.lt_iff_toInt_lt] at h1 h2
  rw [nI_toInt hn] at h2
  have h0 : (0 : Int32).toInt = 0 := by decide
  unfold idx at h
  rw [if_pos (by omega)] at h
  cases h
