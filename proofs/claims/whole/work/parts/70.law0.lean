/-! calls in a world of two parts; the law's helpers -/
theorem rg_l (a b : va_W) : (List.range a.length).map (fun i => (a ++ b)[i]?) = a.map some := by
  apply List.ext_getElem?
  intro k
  rw [List.getElem?_map, List.getElem?_map]
  by_cases h : k < a.length
  · rw [List.getElem?_range h, Option.map_some, List.getElem?_append_left h, List.getElem?_eq_getElem h]; rfl
  · rw [List.getElem?_eq_none (by rw [List.length_range]; omega), List.getElem?_eq_none (Nat.le_of_not_lt h)]; rfl
theorem rep_l (a b w : va_W) (h : w.length = a.length) : va_rep (a ++ b) (List.range a.length) w = w ++ b := by
  have hl : (va_rep (a ++ b) (List.range a.length) w).length = (w ++ b).length := by rw [va_rep_len, List.length_append, List.length_append, h]
  apply List.ext_getElem?
  intro k
  by_cases hk : k < (w ++ b).length
  · have hk2 : k < (va_rep (a ++ b) (List.range a.length) w).length := by rw [hl]; exact hk
    have e1 := List.getElem?_eq_getElem hk2
    rcases va_rep_get (a ++ b) (List.range a.length) w (by rw [h, List.length_range]) k _ e1 with ⟨j, h1, h2⟩ | ⟨h1, h2⟩
    · have hj : j < a.length := by have := (List.getElem?_eq_some_iff.mp h1).1; rw [List.length_range] at this; exact this
      rw [List.getElem?_range hj] at h1
      cases h1
      rw [e1, ← h2, List.getElem?_append_left (by rw [h]; exact hj)]
    · rw [List.mem_range] at h1
      rw [e1, ← h2, List.getElem?_append_right (Nat.le_of_not_lt h1), List.getElem?_append_right (by omega), h]
  · rw [List.getElem?_eq_none (by rw [hl]; omega), List.getElem?_eq_none (by omega)]
theorem rg_r (a b : va_W) : ((List.range b.length).map (fun i => i + a.length)).map (fun i => (a ++ b)[i]?) = b.map some := by
  apply List.ext_getElem?
  intro k
  rw [List.getElem?_map, List.getElem?_map, List.getElem?_map]
  by_cases h : k < b.length
  · rw [List.getElem?_range h, Option.map_some, Option.map_some, List.getElem?_append_right (by omega), Nat.add_sub_cancel, List.getElem?_eq_getElem h]; rfl
  · rw [List.getElem?_eq_none (by rw [List.length_range]; omega), List.getElem?_eq_none (Nat.le_of_not_lt h)]; rfl
theorem rep_r (a b w : va_W) (h : w.length = b.length) : va_rep (a ++ b) ((List.range b.length).map (fun i => i + a.length)) w = a ++ w := by
  have hl : (va_rep (a ++ b) ((List.range b.length).map (fun i => i + a.length)) w).length = (a ++ w).length := by rw [va_rep_len, List.length_append, List.length_append, h]
  apply List.ext_getElem?
  intro k
  by_cases hk : k < (a ++ w).length
  · have hk2 : k < (va_rep (a ++ b) ((List.range b.length).map (fun i => i + a.length)) w).length := by rw [hl]; exact hk
    have e1 := List.getElem?_eq_getElem hk2
    rcases va_rep_get (a ++ b) ((List.range b.length).map (fun i => i + a.length)) w (by rw [h, List.length_map, List.length_range]) k _ e1 with ⟨j, h1, h2⟩ | ⟨h1, h2⟩
    · rw [List.getElem?_map] at h1
      have hj : j < b.length := by
        rcases Nat.lt_or_ge j b.length with y | y
        · exact y
        · rw [List.getElem?_eq_none (by rw [List.length_range]; exact y)] at h1; cases h1
      rw [List.getElem?_range hj, Option.map_some] at h1
      cases h1
      rw [e1, ← h2, List.getElem?_append_right (by omega), Nat.add_sub_cancel]
    · have h3 : k < a.length := by
        refine Nat.lt_of_not_le fun y => h1 (List.mem_map.mpr ⟨k - a.length, List.mem_range.mpr ?_, by omega⟩)
        rw [List.length_append] at hk
        omega
      rw [e1, ← h2, List.getElem?_append_left h3, List.getElem?_append_left h3]
  · rw [List.getElem?_eq_none (by rw [hl]; omega), List.getElem?_eq_none (by omega)]
theorem nd_of : ∀ (l : List Nat), l.Nodup → va_nd l = true
  | [], _ => rfl
  | a :: l, h => by
    have h2 := List.nodup_cons.mp h
    unfold va_nd
    simp [nd_of l h2.2, h2.1]
theorem nd_range (n : Nat) : va_nd (List.range n) = true := nd_of _ List.nodup_range
theorem nd_rangeA (n k : Nat) : va_nd ((List.range n).map (fun i => i + k)) = true := by
  refine nd_of _ ?_
  unfold List.Nodup
  rw [List.pairwise_map]
  exact List.Pairwise.imp (fun h z => h (by omega)) (List.nodup_range (n := n))
section Law0
variable {p : Program} {l : Launch} {e : Env} {R : Room} {s : State} {m : MethodId} {args : Array Value} {below : List Frame} {meth : Method} {c : Code} {H : Heap} {locs : List Loc} {cells slots : Nat} {Q : State → Prop}
variable {G : gl} {wa wb : va_W} {post : Option Value → va_W → Prop} {px : String → va_W → Prop} {rest : List Value} {A : Nat → Prop} {cc : ByteArray}
theorem y_preL {av : List Value} (hE : EV G A s s.heap) (hK : va_K (gD G) vwC (gT G) s) (hP : va_P (gD G) vwC (wa ++ wb) H) (hD : va_D A (wa ++ wb)) (hS : va_S A s.heap H locs) (hA : ∀ q, s.heap.size ≤ q → A q) : ∀ U : State, U.heap = H → s.WarmedH U.vm → va_Pc av (PW G wa H.size) av.toArray U :=
  y_pre hE hK hP hD hS hA _ (nd_range _) (rg_l wa wb)
theorem y_preR {av : List Value} (hE : EV G A s s.heap) (hK : va_K (gD G) vwC (gT G) s) (hP : va_P (gD G) vwC (wa ++ wb) H) (hD : va_D A (wa ++ wb)) (hS : va_S A s.heap H locs) (hA : ∀ q, s.heap.size ≤ q → A q) : ∀ U : State, U.heap = H → s.WarmedH U.vm → va_Pc av (PW G wb H.size) av.toArray U :=
  y_pre hE hK hP hD hS hA _ (nd_rangeA _ _) (rg_r wa wb)
theorem y_callL {pc : Nat} {ls : Array Slot} {st0 : List Value} (hr : yRun p l e R s m args below meth c H locs cells slots (F0 m pc ls st0) rest G (va_A wa H.size) wa.length post px) (hP : va_P (gD G) vwC (wa ++ wb) H) (hD : va_D A (wa ++ wb)) (hS : va_S A s.heap H locs) (hA : ∀ q, s.heap.size ≤ q → A q)
    (kx : ∀ (E : String) (w : va_W) (q : Addr) (ce : Cell) (H1 : Heap) (locs1 : List Loc), px E w → w.length = wa.length → va_P (gD G) vwC (w ++ wb) H1 → va_D A (w ++ wb) → va_S A s.heap H1 locs1 → H1[q]? = some ce → ce.vm = .none → s.vm.findClass E = some ce.cls → vx_W p l e R s m args below meth c H1 locs1 (cells + 1) (slots + 6) Q (F0 m pc ls rest) q)
    (kk : ∀ (v : Option Value) (w : va_W) (H1 : Heap) (locs1 : List Loc), post v w → w.length = wa.length → va_P (gD G) vwC (w ++ wb) H1 → va_D A (w ++ wb) → va_S A s.heap H1 locs1 → W p l e R s m args below meth c H1 locs1 cells slots Q (F0 m (pc + 3) ls (v.toList ++ rest))) : W p l e R s m args below meth c H locs cells slots Q (F0 m pc ls st0) :=
  y_call hr hP hD hS hA _ (rg_l wa wb) (fun E w q ce H1 locs1 h1 h2 h3 h4 => by rw [rep_l wa wb w h2] at h3 h4; exact kx E w q ce H1 locs1 h1 h2 h3 h4) (fun v w H1 locs1 h1 h2 h3 h4 => by rw [rep_l wa wb w h2] at h3 h4; exact kk v w H1 locs1 h1 h2 h3 h4)
theorem y_callR {pc : Nat} {ls : Array Slot} {st0 : List Value} (hr : yRun p l e R s m args below meth c H locs cells slots (F0 m pc ls st0) rest G (va_A wb H.size) wb.length post px) (hP : va_P (gD G) vwC (wa ++ wb) H) (hD : va_D A (wa ++ wb)) (hS : va_S A s.heap H locs) (hA : ∀ q, s.heap.size ≤ q → A q)
    (hpx : ∀ E w, ¬ px E w)
    (kk : ∀ (v : Option Value) (w : va_W) (H1 : Heap) (locs1 : List Loc), post v w → w.length = wb.length → va_P (gD G) vwC (wa ++ w) H1 → va_D A (wa ++ w) → va_S A s.heap H1 locs1 → W p l e R s m args below meth c H1 locs1 cells slots Q (F0 m (pc + 3) ls (v.toList ++ rest))) : W p l e R s m args below meth c H locs cells slots Q (F0 m pc ls st0) :=
  y_call hr hP hD hS hA _ (rg_r wa wb) (fun E w q ce H1 locs1 h1 => absurd h1 (hpx E w)) (fun v w H1 locs1 h1 h2 h3 h4 => by rw [rep_r wa wb w h2] at h3 h4; exact kk v w H1 locs1 h1 h2 h3 h4)
end Law0
def nIAE : String := "java/lang/IllegalArgumentException"
def nISE : String := "java/lang/IllegalStateException"
def nIOB : String := "java/lang/IndexOutOfBoundsException"
def nUOE : String := "java/lang/UnsupportedOperationException"
def Nc5 (U : State) : Prop := va_Nc "java/lang/IllegalStateException" "java/lang/IllegalArgumentException" U ∧ va_Nc "java/lang/IllegalArgumentException" "java/lang/IndexOutOfBoundsException" U ∧ va_Nc "java/lang/IllegalStateException" "java/lang/IndexOutOfBoundsException" U ∧ va_Nc "java/lang/UnsupportedOperationException" "java/lang/IndexOutOfBoundsException" U ∧ va_Nc "java/lang/UnsupportedOperationException" "java/lang/IllegalStateException" U
theorem Nc5.moved {u U : State} (hvm : u.vm.Alike U.vm) (h : Nc5 u) : Nc5 U := ⟨h.1.moved hvm, h.2.1.moved hvm, h.2.2.1.moved hvm, h.2.2.2.1.moved hvm, h.2.2.2.2.moved hvm⟩
def PH (G : gl) (ws : va_W) (sz : Nat) (U : State) : Prop := PW G ws sz U ∧ Nc5 U
theorem ph_blind {G : gl} {av : List Value} {ws : va_W} {sz : Nat} : FrameBlind (va_Pc av (PH G ws sz)) := by
  intro a U g mk q
  obtain ⟨q0, q1, q2⟩ := q
  have h := pw_blind (G := G) (av := av) (ws := ws) (sz := sz) a U g mk ⟨q0, q1⟩
  exact ⟨h.1, h.2, q2.moved (u := U) (U := U.calling g mk a) (Vm.Alike.refl U.vm)⟩
/-- the place that the law's helpers answer in -/
abbrev oC (G : gl) (ao : Nat) (f : Nat → Int64) : Nat × va_E := (ao, .inl (gc G 3, 1, .inr (.inl f)))
def hB (G : gl) (A : Nat → Prop) (n : Nat) (w : va_W) (t : State) : Prop := w.length = n ∧ va_P (gD G) vwC w t.heap ∧ va_K (gD G) vwC (gT G) t ∧ va_D A w
/-- a helper's contract: a cell of 6 slots may come -/
def YH (l : Launch) (G : gl) (y : MethodName) (cc : ByteArray) (maxL : Nat) (hh : List (Nat × Nat × Nat × Nat)) (fr lo : Nat) (av : List Value) (ws : va_W) (post : Int32 → va_W → Prop) : Prop :=
  ∀ sz : Nat, Met l y (Cond.codeWith y cc maxL (some .int) hh :: GT) (iR fr lo 1 6) (va_Pc av (PH G ws sz)) (va_Qi post (hB G (va_A ws sz) ws.length) (va_A ws sz)) 1 6 (va_A ws sz)
def Ch (l : Launch) (G : gl) (A : Nat → Prop) (y : MethodName) (cc : ByteArray) (maxL : Nat) (hh : List (Nat × Nat × Nat × Nat)) (av : List Value) (p : Program) (s : State) (m : MethodId) (meth : Method) (c : Code) : Prop :=
  p.tables.exec = Jvm.exec ∧ c.code = cc ∧ meth.sig.returnType = some .int ∧ c.maxLocals = maxL ∧ s.vm.findClass y.cls = some m.cls ∧ (∀ w ∈ GT, w.before av.toArray s = true) ∧ meth.locks = false ∧ c.exceptionTable.toList = tableOf hh ∧ EV G A s s.heap ∧ va_K (gD G) vwC (gT G) s ∧ (∀ q : Nat, s.heap.size ≤ q → A q) ∧ Nc5 s
theorem yh_of {l : Launch} {G : gl} {y : MethodName} {cc : ByteArray} {maxL : Nat} {hh : List (Nat × Nat × Nat × Nat)} {fr lo : Nat} {av : List Value} {ws : va_W} {post : Int32 → va_W → Prop} (hy : plainName y.cls = true)
    (body : ∀ (p : Program) (e : Env) (s : State) (m : MethodId) (below : List Frame) (meth : Method) (c : Code) (A : Nat → Prop), Ch l G A y cc maxL hh av p s m meth c → va_P (gD G) vwC ws s.heap → va_D A ws →
      W p l e (iR fr lo 1 6) s m av.toArray below meth c s.heap [] 0 0 (MQ below (va_Qi post (hB G A ws.length) A) av.toArray s 1 6 A) (entryFrame m av.toArray maxL)) : YH l G y cc maxL hh fr lo av ws post := by
  intro sz
  refine va_MetW (cc := cc) (maxL := maxL) (ret := some .int) (hh := hh) hy rfl ?_
  intro p e s m args below meth c s₁ B hml hv
  obtain ⟨rfl, ⟨hsz, hE, hP, hK, hD⟩, hN⟩ := hv
  subst hsz
  have hts := atoms_spec (ws := Cond.codeWith y cc maxL (some .int) hh :: GT) B.pre
  exact body p e s m below meth c (va_A ws s.heap.size) ⟨B.exec, B.bytes, B.returns, hml, findClass_of_methodNamed B.named, fun w hw => hts w (List.mem_cons_of_mem _ hw), B.notSynchronized, vx_table (x := y) B (hts _ List.mem_cons_self), hE, hK, fun q h => Or.inr h, hN⟩ hP hD.self
section Law1
variable {p : Program} {l : Launch} {e : Env} {R : Room} {s : State} {m : MethodId} {args : Array Value} {below : List Frame} {meth : Method} {c : Code} {H : Heap} {locs : List Loc} {cells slots : Nat} {Q : State → Prop}
variable {G : gl} {wa wb ws : va_W} {rest : List Value} {A : Nat → Prop} {cc : ByteArray} {pc : Nat} {ls : Array Slot}
theorem yh_ret {post : Int32 → va_W → Prop} {v : Int32} {n : Nat} (hx : p.tables.exec = Jvm.exec) (hb : c.code = cc) (hr : meth.sig.returnType = some .int) (hlocks : meth.locks = false) (hc : cells ≤ 1) (hs : slots ≤ 6) (hp : post v ws) (hl : ws.length = n) (hK : va_K (gD G) vwC (gT G) s) (hP : va_P (gD G) vwC ws H) (hD : va_D A ws) (hS : va_S A s.heap H locs) (d : decode cc pc = .ok (.ireturn, 1)) :
    W p l e R s m args below meth c H locs cells slots (MQ below (va_Qi post (hB G A n) A) args s 1 6 A) (F0 m pc ls [.int v]) := by
  refine W.widen hc hs ?_
  exact W.iret hx hb hr (fun t ht hW => ⟨⟨v, ws, rfl, hp, hl, by rw [ht]; exact hP, va_K.moved hW.alike hK, hD⟩, hS.F ht⟩) hS.2.2 d hlocks
theorem yh_pre {av : List Value} (hN : Nc5 s) (hE : EV G A s s.heap) (hK : va_K (gD G) vwC (gT G) s) (hP : va_P (gD G) vwC (wa ++ wb) H) (hD : va_D A (wa ++ wb)) (hS : va_S A s.heap H locs) (hA : ∀ q, s.heap.size ≤ q → A q) : PreS s H (va_Pc av (PH G wa H.size)) av :=
  ⟨ph_blind, fun U hU hW => by have h := y_preL (av := av) hE hK hP hD hS hA U hU hW; exact ⟨h.1, h.2, hN.moved hW.alike⟩⟩
/-- behind a helper -/
theorem yh_call {post : Int32 → va_W → Prop} {a : Array Value} {st0 : List Value} (hr : va_Run p l e R s m args below meth c H locs cells slots 1 6 (F0 m pc ls st0) rest (va_Qi post (hB G (va_A wa H.size) wa.length) (va_A wa H.size) a) (va_A wa H.size)) (hP : va_P (gD G) vwC (wa ++ wb) H) (hD : va_D A (wa ++ wb)) (hS : va_S A s.heap H locs) (hA : ∀ q, s.heap.size ≤ q → A q)
    (kk : ∀ (r : Int32) (w : va_W) (H1 : Heap) (locs1 : List Loc), post r w → w.length = wa.length → va_P (gD G) vwC (w ++ wb) H1 → va_D A (w ++ wb) → va_S A s.heap H1 locs1 → W p l e R s m args below meth c H1 locs1 (cells + 1) (slots + 6) Q (F0 m (pc + 3) ls (.int r :: rest))) : W p l e R s m args below meth c H locs cells slots Q (F0 m pc ls st0) := by
  have hFc := va_free (wc := wa) hD hS hA _ (rg_l wa wb)
  refine va_calli hr hS (fun q _ h => hFc q h) hFc (fun r w t H1 locs1 ht hvm hp hB hz1 hk1 hS1 => ?_)
  obtain ⟨hl, hP1, hK1, hD1⟩ := hB
  rw [ht] at hP1
  obtain ⟨r1, r2⟩ := va_repP hP hD _ (rg_l wa wb) hl hk1 hFc hP1 hD1
  rw [rep_l wa wb w hl] at r1 r2
  exact kk r w H1 locs1 hp hl r1 r2 hS1
theorem gSW {own : String} {index maxL n fr lo : Nat} {y : MethodName} {bytes : ByteArray} {hh : List (Nat × Nat × Nat × Nat)} (hg : ∀ w ∈ GT, w.before args s = true) (h1 : Cond.methodLink own index y ∈ GT) (h2 : Cond.static y ∈ GT) (h4 : Cond.initialized y.cls ∈ GT) (h5 : Cond.codeWith y bytes maxL (some .int) hh ∈ GT)
    (hd : y.cls ≠ "java/lang/invoke/MethodHandle" ∧ y.cls ≠ "java/lang/invoke/VarHandle" ∧ (parseMethodDescriptor y.desc).map (fun d => d.parameters.length) = some n) (hR : fr + 1 ≤ R.frames ∧ 8 + (maxL + 11) + lo ≤ R.locals) : vx_CSW R s args own index y bytes maxL (some .int) hh (Cond.codeWith y bytes maxL (some .int) hh :: GT) (iR fr lo 1 6) 1 6 n := by
  have hG : GoodIn GT (Cond.codeWith y bytes maxL (some .int) hh :: GT) := fun w hw => (List.mem_cons.mp hw).elim (fun e => by rw [e]; exact gt_in _ h5) (gt_in w)
  refine ⟨⟨rfl, rfl, hR.1, hR.2, pay_in hg hG, List.mem_cons_self⟩, hg _ h5, hg _ h4, ⟨hd.1, hd.2.1⟩, fun sig h => ?_, hg _ h1, hg _ h2⟩
  have h2 := hd.2.2
  rw [h] at h2
  exact (Option.some.inj h2).symm
end Law1
