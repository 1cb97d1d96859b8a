/-! constructors: they make cells -/
def PI0 (G : gl) (ws : va_W) (sz : Nat) (U : State) : Prop := U.heap.size = sz ∧ va_P (gD G) vwC ws U.heap ∧ va_K (gD G) vwC (gT G) U ∧ va_D (fun _ => True) ws ∧ va_AO "WordShapes$Shape" U ∧ NWs U
theorem pi_blind {G : gl} {av : List Value} {ws : va_W} {sz : Nat} : FrameBlind (va_Pc av (PI0 G ws sz)) := by
  intro a U g mk q
  obtain ⟨q0, q1, q2, q3, q4, q5, q6⟩ := q
  exact ⟨q0, q1, q2, va_K.moved (u := U) (U := U.calling g mk a) (Vm.Alike.refl U.vm) q3, q4, va_AO.moved (u := U) (U := U.calling g mk a) (Vm.Alike.refl U.vm) q5, q6.same (U := U.calling g mk a) rfl⟩
def iB (G : gl) (A : Nat → Prop) (w : va_W) (t : State) : Prop := va_P (gD G) vwC w t.heap ∧ va_K (gD G) vwC (gT G) t ∧ va_D A w
abbrev iR (fr lo mc ms : Nat) : Room := { frames := fr, cells := mc, slots := ms, locals := lo }
/-- THE CONTRACT of a constructor: mc cells of ms slots come -/
def YI (l : Launch) (G : gl) (y : MethodName) (cc : ByteArray) (maxL fr lo mc ms : Nat) (av : List Value) (ws : va_W) (post : va_W → Prop) : Prop :=
  ∀ sz : Nat, Met l y (Cond.code y cc maxL none :: GT) (iR fr lo mc ms) (va_Pc av (PI0 G ws sz)) (va_Qv post (iB G (va_A ws sz)) (va_A ws sz)) mc ms (va_A ws sz)
def Ci (l : Launch) (G : gl) (A : Nat → Prop) (y : MethodName) (cc : ByteArray) (maxL : Nat) (av : List Value) (p : Program) (s : State) (m : MethodId) (meth : Method) (c : Code) : Prop :=
  p.tables.exec = Jvm.exec ∧ c.code = cc ∧ meth.sig.returnType = none ∧ c.maxLocals = maxL ∧ s.vm.findClass y.cls = some m.cls ∧ (∀ w ∈ GT, w.before av.toArray s = true) ∧ meth.locks = false ∧ va_K (gD G) vwC (gT G) s ∧ (∀ q : Nat, s.heap.size ≤ q → A q) ∧ meth.name = y.name ∧ va_AO "WordShapes$Shape" s ∧ NWs s
theorem yi_of {l : Launch} {G : gl} {y : MethodName} {cc : ByteArray} {maxL fr lo mc ms : Nat} {av : List Value} {ws : va_W} {post : va_W → Prop} (hy : plainName y.cls = true)
    (body : ∀ (p : Program) (e : Env) (s : State) (m : MethodId) (below : List Frame) (meth : Method) (c : Code) (A : Nat → Prop), Ci l G A y cc maxL av p s m meth c → va_P (gD G) vwC ws s.heap → va_D A ws →
      W p l e (iR fr lo mc ms) s m av.toArray below meth c s.heap [] 0 0 (MQ below (va_Qv post (iB G A) A) av.toArray s mc ms A) (entryFrame m av.toArray maxL)) : YI l G y cc maxL fr lo mc ms av ws post := by
  intro sz
  refine Met.ofW (cc := cc) (maxL := maxL) (ret := none) hy rfl ?_
  intro p e s m args below meth c s₁ B hml hv
  obtain ⟨rfl, hsz, hP, hK, hD, hAO, hNW⟩ := hv
  subst hsz
  have hts := atoms_spec (ws := Cond.code y cc maxL none :: GT) B.pre
  exact body p e s m below meth c (va_A ws s.heap.size) ⟨B.exec, B.bytes, B.returns, hml, findClass_of_methodNamed B.named, fun w hw => hts w (List.mem_cons_of_mem _ hw), B.notSynchronized, hK, fun q h => Or.inr h, (name_of_methodNamed B.named B.method).1, hAO, hNW⟩ hP hD.self
section YI
variable {p : Program} {l : Launch} {e : Env} {R : Room} {s : State} {m : MethodId} {args : Array Value} {below : List Frame} {meth : Method} {c : Code} {H : Heap} {locs : List Loc} {cells slots : Nat} {Q : State → Prop} {G : gl} {A : Nat → Prop} {ws wc wr : va_W} {cc : ByteArray} {pc : Nat} {ls : Array Slot} {rest : List Value} {H0 : Heap}
theorem yi_ret {post : va_W → Prop} {mc ms : Nat} (hx : p.tables.exec = Jvm.exec) (hb : c.code = cc) (hr : meth.sig.returnType = none) (hlocks : meth.locks = false) (hc : cells ≤ mc) (hs : slots ≤ ms) (hp : post ws) (hK : va_K (gD G) vwC (gT G) s) (hP : va_P (gD G) vwC ws H) (hD : va_D A ws) (hS : va_S A s.heap H locs) (d : decode cc pc = .ok (.return_, 1)) :
    W p l e R s m args below meth c H locs cells slots (MQ below (va_Qv post (iB G A) A) args s mc ms A) (F0 m pc ls []) := by
  refine W.widen hc hs ?_
  exact W.vret hx hb hr (fun t ht hW => ⟨⟨ws, rfl, hp, by rw [ht]; exact hP, va_K.moved hW.alike hK, hD⟩, hS.F ht⟩) hS.2.2 d hlocks
theorem y_newI {n : Nat} (hx : p.tables.exec = Jvm.exec) (hb : c.code = cc) (harr : (Cond.arrayClass .int).before args s = true) (hK : va_K (gD G) vwC (gT G) s) (hP : va_P (gD G) vwC ws H) (hD : va_D A ws) (hS : va_S A H0 H locs) (hA : ∀ q, H0.size ≤ q → A q) (hn : n ≤ 131072) (hcells : cells + 1 ≤ R.cells) (hslots : slots + n ≤ R.slots) (hdg : decode cc pc = .ok (.newarray .int, 2))
    (kk : ∀ (q : Nat) (H1 : Heap), va_P (gD G) vwC (ws ++ [(q, .inl (gc G 0, n, .inl (fun _ => nI 0)))]) H1 → va_D A (ws ++ [(q, .inl (gc G 0, n, .inl (fun _ => nI 0)))]) → va_S A H0 H1 locs → W p l e R s m args below meth c H1 locs (cells + 1) (slots + n) Q (F0 m (pc + 2) ls (.ref q :: rest))) : W p l e R s m args below meth c H locs cells slots Q (F0 m pc ls (.int (nI n) :: rest)) := by
  refine va_newa (atype := .int) (ty := .int) hx hb harr rfl hK hP hD hS hA (a0 := (n, .inl (fun _ => nI 0))) (fun cA => rfl) (nI_pos (by omega)) (nI_clamp (by omega)) (by show n * 4 ≤ 536870912; omega) hcells hslots hdg (fun q cA H1 hK1 hP1 hD1 hS1 => ?_)
  have e : cA = gc G 0 := Option.some.inj ((hK1.2 4 (cA, .int) rfl).2.symm.trans (hK.2 0 (gc G 0, .int) rfl).2)
  subst e
  exact kk q H1 hP1 hD1 hS1
theorem y_newB {n : Nat} (hx : p.tables.exec = Jvm.exec) (hb : c.code = cc) (harr : (Cond.arrayClass .byte).before args s = true) (hK : va_K (gD G) vwC (gT G) s) (hP : va_P (gD G) vwC ws H) (hD : va_D A ws) (hS : va_S A H0 H locs) (hA : ∀ q, H0.size ≤ q → A q) (hn : n ≤ 131072) (hcells : cells + 1 ≤ R.cells) (hslots : slots + n ≤ R.slots) (hdg : decode cc pc = .ok (.newarray .byte, 2))
    (kk : ∀ (q : Nat) (H1 : Heap), va_P (gD G) vwC (ws ++ [(q, .inl (gc G 1, n, .inl (fun _ => sb_b 0)))]) H1 → va_D A (ws ++ [(q, .inl (gc G 1, n, .inl (fun _ => sb_b 0)))]) → va_S A H0 H1 locs → W p l e R s m args below meth c H1 locs (cells + 1) (slots + n) Q (F0 m (pc + 2) ls (.ref q :: rest))) : W p l e R s m args below meth c H locs cells slots Q (F0 m pc ls (.int (nI n) :: rest)) := by
  refine va_newa (atype := .byte) (ty := .byte) hx hb harr rfl hK hP hD hS hA (a0 := (n, .inl (fun _ => sb_b 0))) (fun cA => rfl) (nI_pos (by omega)) (nI_clamp (by omega)) (by show n * 1 ≤ 536870912; omega) hcells hslots hdg (fun q cA H1 hK1 hP1 hD1 hS1 => ?_)
  have e : cA = gc G 1 := Option.some.inj ((hK1.2 4 (cA, .byte) rfl).2.symm.trans (hK.2 1 (gc G 1, .byte) rfl).2)
  subst e
  exact kk q H1 hP1 hD1 hS1
theorem y_newQ {n index : Nat} {own : String} (hx : p.tables.exec = Jvm.exec) (hb : c.code = cc) (hown : s.vm.findClass own = some m.cls) (hclink : (Cond.classLink own index "WordShapes$Shape").before args s = true) (hover : va_AO "WordShapes$Shape" s) (hK : va_K (gD G) vwC (gT G) s) (hP : va_P (gD G) vwC ws H) (hD : va_D A ws) (hS : va_S A H0 H locs) (hA : ∀ q, H0.size ≤ q → A q) (hn : n ≤ 131072) (hcells : cells + 1 ≤ R.cells) (hslots : slots + n ≤ R.slots) (hdg : decode cc pc = .ok (.anewarray index, 3))
    (kk : ∀ (q : Nat) (H1 : Heap), va_P (gD G) vwC (ws ++ [(q, .inl (gc G 2, n, .inr (.inr (.inr (.inr (fun _ => none))))))]) H1 → va_D A (ws ++ [(q, .inl (gc G 2, n, .inr (.inr (.inr (.inr (fun _ => none))))))]) → va_S A H0 H1 locs → W p l e R s m args below meth c H1 locs (cells + 1) (slots + n) Q (F0 m (pc + 3) ls (.ref q :: rest))) : W p l e R s m args below meth c H locs cells slots Q (F0 m pc ls (.int (nI n) :: rest)) := by
  refine va_newq hx hb hown hclink hover hK hP hD hS hA (nI_pos (by omega)) (nI_clamp (by omega)) (by omega) hcells hslots hdg (fun q cA H1 hK1 hP1 hD1 hS1 => ?_)
  obtain ⟨k1, c1, -, -, -, h1⟩ := (hK1.2 4 (cA, .object "WordShapes$Shape") rfl).2
  obtain ⟨k2, c2, -, -, -, h2⟩ := (hK.2 2 (gc G 2, .object "WordShapes$Shape") rfl).2
  have e : cA = gc G 2 := Option.some.inj (h1.symm.trans h2)
  subst e
  exact kk q H1 hP1 hD1 hS1
theorem yi_pre {av : List Value} (hNW : NWs s) (hAO : va_AO "WordShapes$Shape" s) (hK : va_K (gD G) vwC (gT G) s) (hP : va_P (gD G) vwC ws H) (hD : va_D A ws) (isC : List Nat) (hn : va_nd isC = true) (hC : isC.map (fun i => ws[i]?) = wc.map some) : PreS s H (va_Pc av (PI0 G wc H.size)) av := by
  have hDc : va_D A wc := hD.sub isC hn hC
  have hPc : va_P (gD G) vwC wc H := by
    intro k q hq
    have h1 : (isC.map (fun i => ws[i]?))[k]? = some (some q) := by rw [hC, List.getElem?_map, hq]; rfl
    rw [List.getElem?_map] at h1
    cases hi : isC[k]? with
    | none => rw [hi] at h1; cases h1
    | some i => rw [hi] at h1; exact hP i q (Option.some.inj h1)
  exact ⟨pi_blind, fun U hU hW => ⟨rfl, by rw [hU], by rw [hU]; exact hPc, va_K.moved hW.alike hK, hDc.weaken (fun _ _ _ _ => trivial), va_AO.moved hW.alike hAO, hNW.warm hW⟩⟩
theorem yi_call {mc ms : Nat} {post : va_W → Prop} {a : Array Value} {st0 : List Value} (hr : va_Run p l e R s m args below meth c H locs cells slots mc ms (F0 m pc ls st0) rest (va_Qv post (iB G (va_A wc H.size)) (va_A wc H.size) a) (va_A wc H.size)) (hP : va_P (gD G) vwC ws H) (hD : va_D A ws) (hS : va_S A s.heap H locs) (hA : ∀ q, s.heap.size ≤ q → A q) (isC isR : List Nat) (hC : isC.map (fun i => ws[i]?) = wc.map some) (hR : isR.map (fun i => ws[i]?) = wr.map some) (hn : va_nd isR = true) (hdis : ∀ i ∈ isR, i ∉ isC)
    (kk : ∀ (w : va_W) (H1 : Heap) (locs1 : List Loc), post w → va_P (gD G) vwC (wr ++ w) H1 → va_D A (wr ++ w) → va_S A s.heap H1 locs1 → W p l e R s m args below meth c H1 locs1 (cells + mc) (slots + ms) Q (F0 m (pc + 3) ls rest)) : W p l e R s m args below meth c H locs cells slots Q (F0 m pc ls st0) := by
  have hFc := va_free (wc := wc) hD hS hA isC hC
  refine va_callv hr hS (fun q _ h => hFc q h) hFc (fun w t H1 locs1 ht hvm hp hB hz1 hk1 hS1 => ?_)
  obtain ⟨hP1, hK1, hD1⟩ := hB
  rw [ht] at hP1
  obtain ⟨hP2, hD2⟩ := va_join (wr := wr) (w1 := w) hP hD isC isR hC hR hn hdis hk1 hFc hP1 hD1
  exact kk w H1 locs1 hp hP2 hD2 hS1
/-- an array's contents count below its length alone -/
theorem va_Pset {D : va_G} {cl : List vw_C} {k a : Nat} {cA : ClassId} {x y : vp_A} (hP : va_P D cl ws H) (h : ws[k]? = some (a, .inl (cA, x))) (e : vp_cell cA x = vp_cell cA y) : va_P D cl (ws.set k (a, .inl (cA, y))) H := by
  intro j q hq
  by_cases hj : k = j
  · subst hj
    have hk : k < ws.length := (List.getElem?_eq_some_iff.mp h).1
    rw [List.getElem?_set_self hk] at hq
    cases hq
    have h1 : H[a]? = some (vp_cell cA x) := hP k _ h
    show H[a]? = some (vp_cell cA y)
    rw [← e]; exact h1
  · rw [List.getElem?_set_ne hj] at hq
    exact hP j q hq
theorem va_Dset {k a : Nat} {x y : va_E} (hD : va_D A ws) (h : ws[k]? = some (a, x)) : va_D A (ws.set k (a, y)) := by
  have hk : k < ws.length := (List.getElem?_eq_some_iff.mp h).1
  have g : ∀ (j : Nat) (q : Nat × va_E), (ws.set k (a, y))[j]? = some q → ∃ z, ws[j]? = some (q.1, z) := by
    intro j q hq
    by_cases hj : k = j
    · subst hj
      rw [List.getElem?_set_self hk] at hq
      cases hq
      exact ⟨x, h⟩
    · rw [List.getElem?_set_ne hj] at hq
      exact ⟨q.2, hq⟩
  refine ⟨fun i j p q h1 h2 h3 => ?_, fun j q hq => ?_⟩
  · obtain ⟨z1, g1⟩ := g i p h1
    obtain ⟨z2, g2⟩ := g j q h2
    exact hD.1 i j _ _ g1 g2 h3
  · obtain ⟨z, g1⟩ := g j q hq
    exact hD.2 j (q.1, z) g1
/-- the words of a constructor's call -/
theorem gI {own : String} {index maxL n fr lo mc ms : Nat} {y : MethodName} {bytes : ByteArray} (hg : ∀ w ∈ GT, w.before args s = true) (h1 : Cond.methodLink own index y ∈ GT) (h2 : Cond.instanceMethod y ∈ GT) (h4 : Cond.initialized y.cls ∈ GT) (h5 : Cond.code y bytes maxL none ∈ GT) (hy : y.name = "<init>")
    (hd : y.cls ≠ "java/lang/invoke/MethodHandle" ∧ y.cls ≠ "java/lang/invoke/VarHandle" ∧ (parseMethodDescriptor y.desc).map (fun d => d.parameters.length) = some n) (hR : fr + 1 ≤ R.frames ∧ 8 + (maxL + 11) + lo ≤ R.locals) : CallB R s args own index y bytes maxL none (Cond.code y bytes maxL none :: GT) (iR fr lo mc ms) mc ms n ∧ y.name = "<init>" ∧ (Cond.instanceMethod y).before args s = true := by
  have hG : GoodIn GT (Cond.code y bytes maxL none :: GT) := fun w hw => (List.mem_cons.mp hw).elim (fun e => by rw [e]; exact gt_in _ h5) (gt_in w)
  exact cwI n hg hG rfl rfl rfl (hg _ h4) (hg _ h1) (hg _ h2) hy hd hR
theorem gIN {own host : String} {index maxL n fr lo mc ms : Nat} {y : MethodName} {bytes : ByteArray} (hg : ∀ w ∈ GT, w.before args s = true) (h1 : va_Nw (.methodLinkNest own index y host) s) (h2 : Cond.instanceMethod y ∈ GT) (h4 : Cond.initialized y.cls ∈ GT) (h5 : Cond.code y bytes maxL none ∈ GT) (hy : y.name = "<init>")
    (hd : y.cls ≠ "java/lang/invoke/MethodHandle" ∧ y.cls ≠ "java/lang/invoke/VarHandle" ∧ (parseMethodDescriptor y.desc).map (fun d => d.parameters.length) = some n) (hR : fr + 1 ≤ R.frames ∧ 8 + (maxL + 11) + lo ≤ R.locals) : va_CN R s args own index y host bytes maxL none (Cond.code y bytes maxL none :: GT) (iR fr lo mc ms) mc ms n ∧ y.name = "<init>" ∧ (Cond.instanceMethod y).before args s = true := by
  have hG : GoodIn GT (Cond.code y bytes maxL none :: GT) := fun w hw => (List.mem_cons.mp hw).elim (fun e => by rw [e]; exact gt_in _ h5) (gt_in w)
  exact ⟨va_cnB n hg hG rfl rfl rfl h1 (hg _ h4) hd hR, hy, hg _ h2⟩
end YI
