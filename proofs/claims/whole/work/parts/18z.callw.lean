section YCW
variable {p : Program} {l : Launch} {e : Env} {R : Room} {s : State} {m : MethodId} {args : Array Value} {below : List Frame} {meth : Method} {c : Code} {H : Heap} {locs : List Loc} {cells slots : Nat} {Q : State → Prop}
variable {G : gl} {ws : va_W} {post : Option Value → va_W → Prop} {px : String → va_W → Prop} {rest : List Value} {A : Nat → Prop}
theorem y_freeW (hD : va_D A ws) (hS : va_S A s.heap H locs) (hA : ∀ q, s.heap.size ≤ q → A q) : ∀ q, va_A ws H.size q → A q := by
  intro q h
  rcases h with ⟨k, e, h⟩ | h
  · exact hD.2 k (q, e) h
  · exact hA q (Nat.le_trans hS.1 h)
theorem y_preW {av : List Value} (hE : EV G A s s.heap) (hK : va_K (gD G) vwC (gT G) s) (hP : va_P (gD G) vwC ws H) (hD : va_D A ws) (hS : va_S A s.heap H locs) (hA : ∀ q, s.heap.size ≤ q → A q) :
    ∀ U : State, U.heap = H → s.WarmedH U.vm → va_Pc av (PW G ws H.size) av.toArray U := by
  intro U hU hW
  exact ⟨rfl, by rw [hU], hE.into hS.2.1 hW hU (y_freeW hD hS hA), by rw [hU]; exact hP, va_K.moved hW.alike hK, hD.weaken (fun _ _ _ _ => trivial)⟩
/-- behind a call of a method of the same world -/
theorem y_callW {pc : Nat} {ls : Array Slot} {st0 : List Value} (hr : yRun p l e R s m args below meth c H locs cells slots (F0 m pc ls st0) rest G (va_A ws H.size) ws.length post px) (hD : va_D A ws) (hS : va_S A s.heap H locs) (hA : ∀ q, s.heap.size ≤ q → A q)
    (kx : ∀ (E : String) (w : va_W) (q : Addr) (ce : Cell) (H1 : Heap) (locs1 : List Loc), px E w → w.length = ws.length → va_P (gD G) vwC w H1 → va_D A w → va_S A s.heap H1 locs1 → H1[q]? = some ce → ce.vm = .none → s.vm.findClass E = some ce.cls → vx_W p l e R s m args below meth c H1 locs1 (cells + 1) (slots + 6) Q (F0 m pc ls rest) q)
    (kk : ∀ (v : Option Value) (w : va_W) (H1 : Heap) (locs1 : List Loc), post v w → w.length = ws.length → va_P (gD G) vwC w H1 → va_D A w → va_S A s.heap H1 locs1 → W p l e R s m args below meth c H1 locs1 cells slots Q (F0 m (pc + 3) ls (v.toList ++ rest))) : W p l e R s m args below meth c H locs cells slots Q (F0 m pc ls st0) := by
  have hFc := y_freeW hD hS hA
  intro T hT X
  rcases hr T hT X with ⟨v, st₀, t, T', L, h0, X', hL, e1, e2, ⟨w, hp, hlw, hP1, hK1, hD1, hF⟩, st⟩ | ⟨q, st₀, t, T', L, E, ce, h0, X', hL, e1, e2, ⟨w, hp, hlw, hP1, hK1, hD1, hF⟩, hce, hcv, hcl, st⟩
  · obtain ⟨k1, k2, k3⟩ := vx_keep h0 e1 hS (fun q _ h => hFc q h) hFc hL hF
    obtain ⟨t2, a1, b1⟩ := kk v w T'.heap (locs ++ L) hp hlw (by rw [e1]; exact hP1) (hD1.weaken (fun _ q _ h => hFc q.1 h)) k3 T' rfl X'
    exact ⟨t2, st t2 a1, b1⟩
  · obtain ⟨k1, k2, k3⟩ := vx_keep h0 e1 hS (fun q _ h => hFc q h) hFc hL hF
    obtain ⟨t2, a1, b1⟩ := kx E w q ce T'.heap (locs ++ L) hp hlw (by rw [e1]; exact hP1) (hD1.weaken (fun _ q _ h => hFc q.1 h)) k3 (by rw [e1]; exact hce) hcv hcl T' rfl X'
    exact ⟨t2, st.trans a1, b1⟩
end YCW
