/-! THE CLAIM OUT OF ONE WALK OF THE LAW'S BODY. Your part is whole_start (and what it stands on); all else here is the same for every law, but numbers. -/
def R_law : String := "WordShapesLaw"
def lw_P (b : Addr) (xs : List Int32) (args : Array Value) (s : State) : Prop := args = #[.ref b] ∧ s.IntsAt b xs ∧ xs.length ≤ 3075 ∧ (Jvm.Cond.and given_1 narrow_1).before args s = true
def lw_Q (_ : Array Value) (s : State) (o : Outcome) (t : State) : Prop := o = .returned (some (.int 1)) ∧ Framed s o t [] 601024 7293000
def lw_Z (below : List Frame) (a : Array Value) (s : State) : State → Prop := fun t => ∃ o, t.status = .running ∧ Ended t below o ∧ lw_Q a s o t
/-- the law's own end, with 1 on the stack, nothing written that was there before, its room as the claim has it -/
theorem lw_ret {p : Program} {l : Launch} {e : Env} {s : State} {m : MethodId} {below : List Frame} {meth : Method} {c : Code} {b : Nat} (hx : p.tables.exec = Jvm.exec) (hb : c.code = code) (hr : meth.sig.returnType = ret) (hlocks : meth.locks = false) {pc : Nat} {H : Heap} {ls : Array Slot} (hdg : decode code pc = .ok (.ireturn, 1)) : W p l e room_1 s m #[Value.ref b] below meth c H [] 601024 7293000 (lw_Z below #[Value.ref b] s) (F0 m pc ls [.int 1]) := by
  intro T hT X
  obtain ⟨fs, hret, hrun, hended, hW, hframe⟩ := X.leave (v := some (.int 1)) (hlocks := hlocks) (fun h => by rw [hr] at h; cases h)
  have hmeth' : T.vm.method? m = some meth := X.method'
  refine ⟨T.setFrames fs, ?_, .returned (some (.int 1)), hrun, hended, rfl, ⟨_, rfl⟩, hW, hframe⟩
  jvm_step X.here [X.here.top, hx, hb, hdg, hmeth', hr, ret, narrow_b1]
  (try refine ⟨rfl, ?_⟩); (try refine ⟨rfl, ?_⟩)
  first | (intro acts; rw [hret _ acts rfl rfl rfl]) | rw [hret _ _ rfl rfl rfl]
  exact Steps.refl _
/-- what holds at the law's entry: the machine, the code, the tables' words (any of lw_tbl by 'hts w (by decide +kernel)'), the script of L ints xs at the cell b, what the Statement gives of the start (any of its parts by flat_of_before) -/
def lw_At (p : Program) (s : State) (m : MethodId) (meth : Method) (c : Code) (b L : Nat) (xs : Nat → Int32) : Prop :=
  p.tables.exec = Jvm.exec ∧ c.code = code ∧ meth.sig.returnType = ret ∧ c.maxLocals = 7 ∧ s.vm.findClass R_law = some m.cls ∧ (∀ w ∈ lw_tbl, w.before #[Value.ref b] s = true) ∧ va_X b L xs s s.heap ∧ b < s.heap.size ∧ meth.locks = false ∧ (Jvm.Cond.and given_1 narrow_1).before #[Value.ref b] s = true

/-- a number of the script, 0 behind it -/
def cvN (xs : Nat → Int32) (L k : Nat) : Int32 := if k < L then xs k else nI 0
set_option maxHeartbeats 4000000 in
set_option maxRecDepth 100000 in
theorem c_L_cell (l : Launch) (b L : Nat) (xs : Nat → Int32) (k : Nat) (hk : k < 2 ^ 30) (hL : L < 2 ^ 30) (sz : Nat) : Met l y_L_cell (Cond.code y_L_cell k_L_cell 2 (Option.some FieldType.int) :: GT) (iR 0 0 0 0) (va_Pc [.ref b, .int (nI k)] (fun U => U.heap.size = sz ∧ va_X b L xs U U.heap)) (va_Qi (fun r (_ : Unit) => r = cvN xs L k) (fun _ _ => True) (va_A [] sz)) 0 0 (va_A [] sz) := by
  refine Met.ofW (cc := k_L_cell) (maxL := 2) (ret := Option.some FieldType.int) (by decide) rfl ?_
  intro pg ev sx mm args bl mt cd s₁ B hml hv
  obtain ⟨rfl, hsz, hX⟩ := hv
  subst hsz
  have hx := B.exec
  have hb := B.bytes
  have hr := B.returns
  have hlocks := B.notSynchronized
  have hbl : b < sx.heap.size := by obtain ⟨scr, h, -⟩ := hX; exact (Array.getElem?_eq_some_iff.mp h).1
  have hbA : ¬ va_A [] sx.heap.size b := by
    rintro (⟨k, e, h⟩ | h)
    · cases h
    · omega
  have hS : va_S (va_A [] sx.heap.size) sx.heap sx.heap [] := va_S.rf
  have hl := lv_entry ([.ref b, .int (nI k)]) (n := 2) (Nat.le_of_ble_eq_true rfl)
  rw [lg_entry_eq]
  generalize (lg_sl ([.ref b, .int (nI k)]) ++ List.replicate (2 - (lg_sl ([.ref b, .int (nI k)])).length) Slot.unset).toArray = ls at hl ⊢
  have hl : lv_has ls 2 [(0, .ref b), (1, .int (nI k))] := hl
  refine lv_iload_n hx hb d_L_cell_0 rfl (lv_at hl 1 rfl) ?_
  refine lv_aload_n hx hb d_L_cell_1 rfl (lv_at hl 0 rfl) ?_
  refine va_slen hx hb hX hbl hbA hS d_L_cell_2 ?_
  refine y_eqi (y := nI L) rfl ?_
  refine yn_icmp_ge (a := k) (b := L) (tgt := 12) hx hb d_L_cell_3 (by decide) (by omega) (by omega) (fun c3 => ?_) (fun c3 => ?_)
  · refine lv_iconst (v := nI 0) hx hb d_L_cell_12 (by decide) ?_
    exact W.iret hx hb hr (fun t ht hW => ⟨⟨_, (), rfl, (if_neg (by omega)).symm, trivial⟩, hS.F ht⟩) hS.2.2 d_L_cell_13 hlocks
  · refine lv_aload_n hx hb d_L_cell_6 rfl (lv_at hl 0 rfl) ?_
    refine lv_iload_n hx hb d_L_cell_7 rfl (lv_at hl 1 rfl) ?_
    refine va_sld hx hb hX hbl hbA hS (vp_in_nI c3 (by omega)) d_L_cell_8 ?_
    rw [nI_clamp (by omega)]
    refine lv_goto (tgt := 13) hx hb d_L_cell_9 (by decide) ?_
    exact W.iret hx hb hr (fun t ht hW => ⟨⟨_, (), rfl, (if_pos c3).symm, trivial⟩, hS.F ht⟩) hS.2.2 d_L_cell_13 hlocks
section Start
variable {p : Program} {l : Launch} {e : Env} {R : Room} {s : State} {m : MethodId} {args : Array Value} {below : List Frame} {meth : Method} {c : Code} {H : Heap} {locs : List Loc} {cells slots : Nat} {Q : State → Prop}
variable {G : gl} {ws : va_W} {rest : List Value} {A : Nat → Prop} {cc : ByteArray} {pc : Nat} {ls : Array Slot} {b L : Nat} {xs : Nat → Int32}
theorem cell_call {k nL : Nat} (hx : p.tables.exec = Jvm.exec) (hb : c.code = cc) (hml : c.maxLocals = nL) (hown : s.vm.findClass "WordShapesLaw" = some m.cls) (hg : ∀ w ∈ GT, w.before args s = true) (hX : va_X b L xs s s.heap) (hbl : b < s.heap.size) (hbA : ¬ A b) (hk : k < 2 ^ 30) (hL : L < 2 ^ 30) (hP : va_P (gD G) vwC ws H) (hS : va_S A s.heap H locs) (hA : ∀ q, s.heap.size ≤ q → A q) (hfr : 1 ≤ R.frames) (hlo : 21 ≤ R.locals) (hc : cells ≤ R.cells) (hsl : slots ≤ R.slots) (hsize : ls.size = nL) (hW : 2 * (F0 m pc ls (.int (nI k) :: .ref b :: rest)).monitorRoom + (rest.map fun v => v.category).sum ≤ 8) (hdg : decode cc pc = .ok (.invokestatic 52, 3))
    (kk : ∀ (H1 : Heap) (locs1 : List Loc), va_P (gD G) vwC ws H1 → va_S A s.heap H1 locs1 → W p l e R s m args below meth c H1 locs1 cells slots Q (F0 m (pc + 3) ls (.int (cvN xs L k) :: rest))) : W p l e R s m args below meth c H locs cells slots Q (F0 m pc ls (.int (nI k) :: .ref b :: rest)) := by
  have hG : GoodIn GT (Cond.code y_L_cell k_L_cell 2 (Option.some FieldType.int) :: GT) := fun w hw => (List.mem_cons.mp hw).elim (fun e => by rw [e]; exact gt_in _ tk_180) (gt_in w)
  have hHb : H[b]? = s.heap[b]? := hS.2.1 b hbl hbA
  have hF : ∀ q, va_A [] H.size q → A q := by
    rintro q (⟨k, e, h⟩ | h)
    · cases h
    · exact hA q (Nat.le_trans hS.1 h)
  refine va_calli (va_runS (As := [.ref b, .int (nI k)]) (rest := rest) ⟨hx, hb, hml, hown, hg⟩ (c_L_cell l b L xs k hk hL H.size) ⟨callB_of 2 hg hG rfl rfl rfl (hg _ tk_0) (hg _ tk_178) (by decide +kernel) ⟨hfr, hlo⟩, hg _ tk_179⟩
    ⟨fun a U g mk q => by obtain ⟨q0, q1, q2⟩ := q; exact ⟨q0, q1, va_X.moved (u := U) (U := U.calling g mk a) (Vm.Alike.refl U.vm) q2⟩, fun U hU hW => ⟨rfl, by rw [hU], by rw [hU]; exact va_X.moved hW.alike (hX.kept hHb)⟩⟩ rfl rfl hsize rfl hW hdg ⟨hc, hsl⟩) hS (fun q _ h => hF q h) hF (fun r u t H1 locs1 ht hvm hp hB hz1 hk1 hS1 => ?_)
  subst hp
  refine kk H1 locs1 (hP.kept (fun k x hx => hk1 x.1 (hP k x hx).lt ?_)) hS1
  rintro (⟨k2, e2, h⟩ | h)
  · cases h
  · have := (hP k x hx).lt; omega
theorem y_newJ {n : Nat} {H0 : Heap} (hx : p.tables.exec = Jvm.exec) (hb : c.code = cc) (harr : (Cond.arrayClass .long).before args s = true) (hK : va_K (gD G) vwC (gT G) s) (hP : va_P (gD G) vwC ws H) (hD : va_D A ws) (hS : va_S A H0 H locs) (hA : ∀ q, H0.size ≤ q → A q) (hn : n ≤ 131072) (hcells : cells + 1 ≤ R.cells) (hslots : slots + n ≤ R.slots) (hdg : decode cc pc = .ok (.newarray .long, 2))
    (kk : ∀ (q : Nat) (H1 : Heap), va_P (gD G) vwC (ws ++ [(q, .inl (gc G 3, n, .inr (.inl (fun _ => 0))))]) H1 → va_D A (ws ++ [(q, .inl (gc G 3, n, .inr (.inl (fun _ => 0))))]) → va_S A H0 H1 locs → W p l e R s m args below meth c H1 locs (cells + 1) (slots + n) Q (F0 m (pc + 2) ls (.ref q :: rest))) : W p l e R s m args below meth c H locs cells slots Q (F0 m pc ls (.int (nI n) :: rest)) := by
  refine va_newa (atype := .long) (ty := .long) hx hb harr rfl hK hP hD hS hA (a0 := (n, .inr (.inl (fun _ => 0)))) (fun cA => rfl) (nI_pos (by omega)) (nI_clamp (by omega)) (by show n * 8 ≤ 536870912; omega) hcells hslots hdg (fun q cA H1 hK1 hP1 hD1 hS1 => ?_)
  have e : cA = gc G 3 := Option.some.inj ((hK1.2 4 (cA, .long) rfl).2.symm.trans (hK.2 3 (gc G 3, .long) rfl).2)
  subst e
  exact kk q H1 hP1 hD1 hS1
end Start

set_option maxHeartbeats 4000000 in
set_option maxRecDepth 100000 in
theorem law_loop {p : Program} {l : Launch} {e : Env} {s : State} {m : MethodId} {below : List Frame} {meth : Method} {c : Code} {G : gl} {A : Nat → Prop} {b L : Nat} {xs : Nat → Int32} {bx bm ao : Nat} (hlt : l.stackTraces = false) (C : LC G A p s m c b L xs) (hr : meth.sig.returnType = ret) (hlocks : meth.locks = false) (hAs : ∀ q, A q → s.heap.size ≤ q) (hL : L ≤ 3075) : ∀ (N i : Nat) (w1 w2 : va_W) (th : Nat) (f : Nat → Int64) (H : Heap) (locs : List Loc) (ls : Array Slot), L + 6 < i + N → i ≤ L + 6 → RelW G bx bm th w1 w2 → va_P (gD G) vwC ((w1 ++ [oC G ao f]) ++ w2) H → va_D A ((w1 ++ [oC G ao f]) ++ w2) → va_S A s.heap H locs → lv_has ls 7 [(0, .ref b), (1, .ref bx), (2, .ref bm), (3, .ref ao), (4, .int (nI i))] → W p l e room_1 s m #[Value.ref b] below meth c H locs (50 + i) (640000 + 6 * i) (lw_Z below #[Value.ref b] s) (F0 m 53 ls []) := by
  obtain ⟨hx, hb, hml, hown, hg, hE, hK, hA, hN, hX, hbl, hbA⟩ := id C
  intro N
  induction N with
  | zero => intro i w1 w2 th f H locs ls h1 h2; omega
  | succ N ih =>
    intro i w1 w2 th f H locs ls hm hi hR hP hD hS hl
    refine lv_iload hx hb d_L_law_53 (lv_at hl 4 rfl) ?_
    refine lv_aload_n hx hb d_L_law_55 rfl (lv_at hl 0 rfl) ?_
    refine va_slen hx hb hX hbl hbA hS d_L_law_56 ?_
    refine y_eqi (y := nI L) rfl ?_
    refine lv_bipush (v := nI 6) hx hb d_L_law_57 (by decide) ?_
    refine lv_isub hx hb d_L_law_59 ?_
    refine lv_icmp_gt (tgt := 822) hx hb d_L_law_60 (by decide) (fun c60 => ?_) (fun c60 => ?_)
    · refine lv_iconst (v := 1) hx hb d_L_law_822 (by decide) ?_
      refine va_forget (fun q hq => hAs _ (hS.2.2 q hq)) ?_
      refine W.widen (k := 601024) (n := 7293000) (by omega) (by omega) ?_
      exact lw_ret hx hb hr hlocks d_L_law_823
    · have h6 : i + 6 ≤ L := by rw [gt6 (by omega) (by omega)] at c60; omega
      have kn : ∀ (w1' w2' : va_W) (th' : Nat) (f' : Nat → Int64) (H' : Heap) (locs' : List Loc) (ls' : Array Slot), RelW G bx bm th' w1' w2' → va_P (gD G) vwC ((w1' ++ [oC G ao f']) ++ w2') H' → va_D A ((w1' ++ [oC G ao f']) ++ w2') → va_S A s.heap H' locs' → lv_has ls' 7 [(0, .ref b), (1, .ref bx), (2, .ref bm), (3, .ref ao), (4, .int (nI i))] → W p l e room_1 s m #[Value.ref b] below meth c H' locs' (50 + i + 1) (640000 + 6 * i + 6) (lw_Z below #[Value.ref b] s) (F0 m 816 ls' []) := by
        intro w1' w2' th' f' H' locs' ls' hR hP hD hS hl
        refine lv_iinc (v := nI (i + 6)) (lv' := [(4, .int (nI (i + 6))), (0, .ref b), (1, .ref bx), (2, .ref bm), (3, .ref ao)]) hx hb d_L_law_816 hl (k := 4) rfl (y_inc6 i) (by decide) rfl (fun ls hl => ?_)
        refine lv_goto (tgt := 53) hx hb d_L_law_819 (by decide) ?_
        refine W.widen (k := 50 + (i + 6)) (n := 640000 + 6 * (i + 6)) (by omega) (by omega) ?_
        exact ih (i + 6) _ _ _ _ _ _ _ (by omega) (by omega) hR hP hD hS (lv_sub hl [1, 2, 3, 4, 0] rfl)
      refine lv_aload_n hx hb d_L_law_63 rfl (lv_at hl 0 rfl) ?_
      refine lv_iload hx hb d_L_law_64 (lv_at hl 4 rfl) ?_
      refine va_sld hx hb hX hbl hbA hS (vp_in_nI (show i < L by omega) (by omega)) d_L_law_66 ?_
      refine lv_bipush (v := nI 15) hx hb d_L_law_67 (by decide) ?_
      refine lv_iand hx hb d_L_law_69 ?_
      obtain ⟨j, hj, ej⟩ := pk_andE (xs (nI i).toNatClampNeg) (m := nI 15) 4 (by decide)
      refine y_eqi ej ?_
      rcases (show j = 0 ∨ j = 1 ∨ j = 2 ∨ j = 3 ∨ j = 4 ∨ j = 5 ∨ j = 6 ∨ j = 7 ∨ j = 8 ∨ j = 9 ∨ j = 10 ∨ j = 11 ∨ j = 12 ∨ j = 13 ∨ j = 14 ∨ j = 15 by omega) with rfl | rfl | rfl | rfl | rfl | rfl | rfl | rfl | rfl | rfl | rfl | rfl | rfl | rfl | rfl | rfl
      · refine lv_tableIn (off := 58) (tgt := 128) hx hb d_L_law_70 (by decide) (by decide) rfl (by decide) ?_
        exact k_feed hlt C h6 hL hR hP hD hS hl kn
      · refine lv_tableIn (off := 162) (tgt := 232) hx hb d_L_law_70 (by decide) (by decide) rfl (by decide) ?_
        exact k_end hlt C h6 hL hR hP hD hS hl kn
      · refine lv_tableIn (off := 218) (tgt := 288) hx hb d_L_law_70 (by decide) (by decide) rfl (by decide) ?_
        exact k_read hlt C h6 hL hR hP hD hS hl kn
      · refine lv_tableIn (off := 274) (tgt := 344) hx hb d_L_law_70 (by decide) (by decide) rfl (by decide) ?_
        exact k_fault hlt C h6 hL hR hP hD hS hl kn
      · refine lv_tableIn (off := 330) (tgt := 400) hx hb d_L_law_70 (by decide) (by decide) rfl (by decide) ?_
        exact k_write hlt C h6 hL hR hP hD hS hl kn
      · refine lv_tableIn (off := 386) (tgt := 456) hx hb d_L_law_70 (by decide) (by decide) rfl (by decide) ?_
        exact k_again hlt C h6 hL hR hP hD hS hl kn
      · refine lv_tableIn (off := 399) (tgt := 469) hx hb d_L_law_70 (by decide) (by decide) rfl (by decide) ?_
        exact k_same hlt C h6 hL hR hP hD hS hl kn
      · refine lv_tableIn (off := 474) (tgt := 544) hx hb d_L_law_70 (by decide) (by decide) rfl (by decide) ?_
        exact k_plan hlt C h6 hL hR hP hD hS hl kn
      · refine lv_tableIn (off := 542) (tgt := 612) hx hb d_L_law_70 (by decide) (by decide) rfl (by decide) ?_
        exact k_ordinate hlt C h6 hL hR hP hD hS hl kn
      · refine lv_tableIn (off := 622) (tgt := 692) hx hb d_L_law_70 (by decide) (by decide) rfl (by decide) ?_
        exact k_byteAt hlt C h6 hL hR hP hD hS hl kn
      · refine lv_tableIn (off := 678) (tgt := 748) hx hb d_L_law_70 (by decide) (by decide) rfl (by decide) ?_
        exact k_count hlt C h6 hL hR hP hD hS hl kn
      · refine lv_tableOut (tgt := 816) hx hb d_L_law_70 (by decide) (by decide) ?_
        refine W.widen (k := 50 + i + 1) (n := 640000 + 6 * i + 6) (by omega) (by omega) ?_
        exact kn _ _ _ _ _ _ _ hR hP hD hS hl
      · refine lv_tableOut (tgt := 816) hx hb d_L_law_70 (by decide) (by decide) ?_
        refine W.widen (k := 50 + i + 1) (n := 640000 + 6 * i + 6) (by omega) (by omega) ?_
        exact kn _ _ _ _ _ _ _ hR hP hD hS hl
      · refine lv_tableOut (tgt := 816) hx hb d_L_law_70 (by decide) (by decide) ?_
        refine W.widen (k := 50 + i + 1) (n := 640000 + 6 * i + 6) (by omega) (by omega) ?_
        exact kn _ _ _ _ _ _ _ hR hP hD hS hl
      · refine lv_tableOut (tgt := 816) hx hb d_L_law_70 (by decide) (by decide) ?_
        refine W.widen (k := 50 + i + 1) (n := 640000 + 6 * i + 6) (by omega) (by omega) ?_
        exact kn _ _ _ _ _ _ _ hR hP hD hS hl
      · refine lv_tableOut (tgt := 816) hx hb d_L_law_70 (by decide) (by decide) ?_
        refine W.widen (k := 50 + i + 1) (n := 640000 + 6 * i + 6) (by omega) (by omega) ?_
        exact kn _ _ _ _ _ _ _ hR hP hD hS hl
set_option maxHeartbeats 4000000 in
set_option maxRecDepth 100000 in
theorem whole_start {p : Program} {e : Env} {s : State} {m : MethodId} {below : List Frame} {meth : Method} {c : Code} (l : Launch) (hlt : l.stackTraces = false) {b L : Nat} {xs : Nat → Int32} (hL : L ≤ 3075) (C0 : lw_At p s m meth c b L xs) : W p l e room_1 s m #[Value.ref b] below meth c s.heap [] 0 0 (lw_Z below #[Value.ref b] s) (entryFrame m ([Value.ref b] : List Value).toArray 7) := by
  obtain ⟨hx, hb, hr, hml, hown, hts, hX, hbl, hlocks, hgv⟩ := C0
  have hown : s.vm.findClass "WordShapesLaw" = some m.cls := hown
  obtain ⟨G, hE, hK, hN, hAO⟩ := env_start hts hgv
  have hg := gt_lw hts
  obtain ⟨A, hAe⟩ : ∃ A : Nat → Prop, (fun q => s.heap.size ≤ q) = A := ⟨_, rfl⟩
  rw [hAe] at hE
  have hA : ∀ q, s.heap.size ≤ q → A q := fun q h => by rw [← hAe]; exact h
  have hAs : ∀ q, A q → s.heap.size ≤ q := fun q h => by rw [← hAe] at h; exact h
  have hbA : ¬ A b := fun h => Nat.not_le.mpr hbl (hAs b h)
  have C : LC G A p s m c b L xs := ⟨hx, hb, hml, hown, hg, hE, hK, hA, hN, hX, hbl, hbA⟩
  have hNW := hE.1
  have hS : va_S A s.heap s.heap [] := va_S.rf
  have hP : va_P (gD G) vwC [] s.heap := fun k q h => by simp at h
  have hD : va_D A [] := ⟨fun i j p q h => by simp at h, fun k q h => by simp at h⟩
  have hl := lv_entry ([.ref b]) (n := 7) (Nat.le_of_ble_eq_true rfl)
  rw [lg_entry_eq]
  generalize (lg_sl ([.ref b]) ++ List.replicate (7 - (lg_sl ([.ref b])).length) Slot.unset).toArray = ls at hl ⊢
  have hl : lv_has ls 7 [(0, .ref b)] := hl
  obtain ⟨H, hH⟩ : ∃ H, H = s.heap := ⟨_, rfl⟩
  rw [← hH] at hP
  have hS : va_S A s.heap H [] := by rw [hH]; exact hS
  suffices h9 : W p l e room_1 s m #[Value.ref b] below meth c H [] 0 0 (lw_Z below #[Value.ref b] s) (F0 m 0 ls []) by rw [hH] at h9; exact h9
  refine va_new (D := gD G) (ci := 4) (fs := [.null, .null, .null, .null, .int (nI 0)]) (C := "WordShapes") (T := TW) (N := 5) hx hb hg iw_W ft_W fo_W hown (hg _ tk_20) (hg _ tk_21) (hg _ tk_1) hK hP hD hS hA rfl (fun j hj => by rcases (show j = 0 ∨ j = 1 ∨ j = 2 ∨ j = 3 ∨ j = 4 by omega) with rfl | rfl | rfl | rfl | rfl <;> rfl) (by show _ ≤ 601024; omega) (by show _ ≤ 7293000; omega) d_L_law_0 (fun q0 H hP hD hS => ?_)
  have hP : va_P (gD G) vwC ([(q0, .inr (4, [.null, .null, .null, .null, .int (nI 0)]))]) H := hP
  have hD : va_D A ([(q0, .inr (4, [.null, .null, .null, .null, .int (nI 0)]))]) := hD
  refine lv_dup hx hb d_L_law_3 rfl ?_
  refine lv_aload_n hx hb d_L_law_4 rfl (lv_at hl 0 rfl) ?_
  refine lv_iconst (v := nI 0) hx hb d_L_law_5 (by decide) ?_
  refine cell_call hx hb hml hown hg hX hbl hbA (by decide) (by omega) hP hS hA (by decide) (by decide) (by show _ ≤ 601024; omega) (by show _ ≤ 7293000; omega) hl.1 (lv_room (Nat.le_of_ble_eq_true rfl)) d_L_law_6 (fun H locs hP hS => ?_)
  refine lv_aload_n hx hb d_L_law_9 rfl (lv_at hl 0 rfl) ?_
  refine lv_iconst (v := nI 1) hx hb d_L_law_10 (by decide) ?_
  refine cell_call hx hb hml hown hg hX hbl hbA (by decide) (by omega) hP hS hA (by decide) (by decide) (by show _ ≤ 601024; omega) (by show _ ≤ 7293000; omega) hl.1 (lv_room (Nat.le_of_ble_eq_true rfl)) d_L_law_11 (fun H locs hP hS => ?_)
  refine lv_aload_n hx hb d_L_law_14 rfl (lv_at hl 0 rfl) ?_
  refine lv_iconst (v := nI 2) hx hb d_L_law_15 (by decide) ?_
  refine cell_call hx hb hml hown hg hX hbl hbA (by decide) (by omega) hP hS hA (by decide) (by decide) (by show _ ≤ 601024; omega) (by show _ ≤ 7293000; omega) hl.1 (lv_room (Nat.le_of_ble_eq_true rfl)) d_L_law_16 (fun H locs hP hS => ?_)
  refine yi_call (wr := []) (va_runI (As := [.int (cvN xs L 0), .int (cvN xs L 1), .int (cvN xs L 2)]) (rest := [.ref q0]) ⟨hx, hb, hml, hown, hg⟩ (c_W_init l G q0 (cvN xs L 0) (cvN xs L 1) (cvN xs L 2) H.size) (gI (n := 3) hg tk_22 tk_23 tk_1 tk_24 rfl (by decide +kernel) ⟨Nat.le_of_ble_eq_true rfl, Nat.le_of_ble_eq_true rfl⟩) (yi_pre hNW hAO hK hP hD [0] rfl rfl) rfl rfl hl.1 rfl (lv_room (Nat.le_of_ble_eq_true rfl)) d_L_law_19 ⟨by show _ ≤ 601024; omega, by show _ ≤ 7293000; omega⟩) hP hD hS hA [0] [] rfl rfl rfl (by decide) (fun w9 H locs hp hP hD hS => ?_)
  obtain ⟨dg, hh, hh0, hdg, edg, rfl⟩ := hp
  have hP : va_P (gD G) vwC (wW G hh (clp 2 (cvN xs L 2)) (2 * clp 1 (cvN xs L 1)) dg 0 (fun _ => 0) (fun _ => 0) (fun _ _ => nI 0) (fun _ _ => nI 0) 0 0 0 0 (fun _ => 0) 0 0 (fun _ => nI 0) (fun _ => nI 0) 0 (fun _ => nI 0) (fun _ => nI 0) 0 false 0 0 0 false (fun _ => 0) (fun _ => nI 0) 0 (fun _ => nI 0) (fun _ => nI 0)) H := hP
  have hD : va_D A (wW G hh (clp 2 (cvN xs L 2)) (2 * clp 1 (cvN xs L 1)) dg 0 (fun _ => 0) (fun _ => 0) (fun _ _ => nI 0) (fun _ _ => nI 0) 0 0 0 0 (fun _ => 0) 0 0 (fun _ => nI 0) (fun _ => nI 0) 0 (fun _ => nI 0) (fun _ => nI 0) 0 false 0 0 0 false (fun _ => 0) (fun _ => nI 0) 0 (fun _ => nI 0) (fun _ => nI 0)) := hD
  refine lv_astore_n (lv' := [(1, .ref q0), (0, .ref b)]) hx hb d_L_law_22 rfl hl (by decide) rfl (fun ls hl => ?_)
  refine va_new (D := gD G) (ci := 5) (fs := [.null, .null, .int (nI 0), .int (nI 0), .int (nI 0), .int (nI 0), .int (nI 0), .null, .null, .null, .null, .null, .int (nI 0), .null, .null, .int (nI 0), .int (nI 0), .int (nI 0), .int (nI 0), .int (nI 0), .int (nI 0), .null, .null, .null]) (C := "WordShapesModel") (T := TM) (N := 24) hx hb hg iw_M ft_M fo_M hown (hg _ tk_674) (hg _ tk_675) (hg _ tk_7) hK hP hD hS hA rfl (fun j hj => by rcases (show j = 0 ∨ j = 1 ∨ j = 2 ∨ j = 3 ∨ j = 4 ∨ j = 5 ∨ j = 6 ∨ j = 7 ∨ j = 8 ∨ j = 9 ∨ j = 10 ∨ j = 11 ∨ j = 12 ∨ j = 13 ∨ j = 14 ∨ j = 15 ∨ j = 16 ∨ j = 17 ∨ j = 18 ∨ j = 19 ∨ j = 20 ∨ j = 21 ∨ j = 22 ∨ j = 23 by omega) with rfl | rfl | rfl | rfl | rfl | rfl | rfl | rfl | rfl | rfl | rfl | rfl | rfl | rfl | rfl | rfl | rfl | rfl | rfl | rfl | rfl | rfl | rfl | rfl <;> rfl) (by show _ ≤ 601024; omega) (by show _ ≤ 7293000; omega) d_L_law_23 (fun q1 H hP hD hS => ?_)
  refine lv_dup hx hb d_L_law_26 rfl ?_
  refine lv_aload_n hx hb d_L_law_27 rfl (lv_at hl 1 rfl) ?_
  refine lv_iconst (v := nI 0) hx hb d_L_law_28 (by decide) ?_
  refine cell_call hx hb hml hown hg hX hbl hbA (by decide) (by omega) hP hS hA (by decide) (by decide) (by show _ ≤ 601024; omega) (by show _ ≤ 7293000; omega) hl.1 (lv_room (Nat.le_of_ble_eq_true rfl)) d_L_law_29 (fun H locs hP hS => ?_)
  refine lv_aload_n hx hb d_L_law_32 rfl (lv_at hl 1 rfl) ?_
  refine lv_iconst (v := nI 1) hx hb d_L_law_33 (by decide) ?_
  refine cell_call hx hb hml hown hg hX hbl hbA (by decide) (by omega) hP hS hA (by decide) (by decide) (by show _ ≤ 601024; omega) (by show _ ≤ 7293000; omega) hl.1 (lv_room (Nat.le_of_ble_eq_true rfl)) d_L_law_34 (fun H locs hP hS => ?_)
  refine lv_aload_n hx hb d_L_law_37 rfl (lv_at hl 1 rfl) ?_
  refine lv_iconst (v := nI 2) hx hb d_L_law_38 (by decide) ?_
  refine cell_call hx hb hml hown hg hX hbl hbA (by decide) (by omega) hP hS hA (by decide) (by decide) (by show _ ≤ 601024; omega) (by show _ ≤ 7293000; omega) hl.1 (lv_room (Nat.le_of_ble_eq_true rfl)) d_L_law_39 (fun H locs hP hS => ?_)
  refine yi_call (wr := (wW G hh (clp 2 (cvN xs L 2)) (2 * clp 1 (cvN xs L 1)) dg 0 (fun _ => 0) (fun _ => 0) (fun _ _ => nI 0) (fun _ _ => nI 0) 0 0 0 0 (fun _ => 0) 0 0 (fun _ => nI 0) (fun _ => nI 0) 0 (fun _ => nI 0) (fun _ => nI 0) 0 false 0 0 0 false (fun _ => 0) (fun _ => nI 0) 0 (fun _ => nI 0) (fun _ => nI 0))) (va_runI (As := [.int (cvN xs L 0), .int (cvN xs L 1), .int (cvN xs L 2)]) (rest := [.ref q1]) ⟨hx, hb, hml, hown, hg⟩ (c_M_init l G q1 (cvN xs L 0) (cvN xs L 1) (cvN xs L 2) H.size) (gI (n := 3) hg tk_676 tk_677 tk_7 tk_678 rfl (by decide +kernel) ⟨Nat.le_of_ble_eq_true rfl, Nat.le_of_ble_eq_true rfl⟩) (yi_pre hNW hAO hK hP hD [28] rfl rfl) rfl rfl hl.1 rfl (lv_room (Nat.le_of_ble_eq_true rfl)) d_L_law_42 ⟨by show _ ≤ 601024; omega, by show _ ≤ 7293000; omega⟩) hP hD hS hA [28] [0, 1, 2, 3, 4, 5, 6, 7, 8, 9, 10, 11, 12, 13, 14, 15, 16, 17, 18, 19, 20, 21, 22, 23, 24, 25, 26, 27] rfl rfl rfl (by decide) (fun w9 H locs hp hP hD hS => ?_)
  obtain ⟨dg2, uu, uu0, hdg2, edg2, rfl⟩ := hp
  refine lv_astore_n (lv' := [(2, .ref q1), (1, .ref q0), (0, .ref b)]) hx hb d_L_law_45 rfl hl (by decide) rfl (fun ls hl => ?_)
  refine lv_iconst (v := nI 1) hx hb d_L_law_46 (by decide) ?_
  refine y_newJ (n := 1) hx hb (hg _ tk_950) hK hP hD hS hA (by decide) (by show _ ≤ 601024; omega) (by show _ ≤ 7293000; omega) d_L_law_47 (fun ao H hP hD hS => ?_)
  have hP := hP.sub (ws' := ((wW G hh (clp 2 (cvN xs L 2)) (2 * clp 1 (cvN xs L 1)) dg 0 (fun _ => 0) (fun _ => 0) (fun _ _ => nI 0) (fun _ _ => nI 0) 0 0 0 0 (fun _ => 0) 0 0 (fun _ => nI 0) (fun _ => nI 0) 0 (fun _ => nI 0) (fun _ => nI 0) 0 false 0 0 0 false (fun _ => 0) (fun _ => nI 0) 0 (fun _ => nI 0) (fun _ => nI 0)) ++ [oC G ao (fun _ => 0)]) ++ (wM G uu dg2 (clp 1 (cvN xs L 1)) (clp 2 (cvN xs L 2)) 0 0 (fun _ => 0) (fun _ => nI 0) (fun _ => 0) (fun _ => nI 0) (fun _ => 0) 0 (fun _ => 0) (fun _ => 0) 0 0 0 0 0 (nI 0) (fun _ => nI 0) (fun _ => nI 0) (fun _ => nI 0))) [0, 1, 2, 3, 4, 5, 6, 7, 8, 9, 10, 11, 12, 13, 14, 15, 16, 17, 18, 19, 20, 21, 22, 23, 24, 25, 26, 27, 41, 28, 29, 30, 31, 32, 33, 34, 35, 36, 37, 38, 39, 40] rfl
  have hD := hD.sub (ws' := ((wW G hh (clp 2 (cvN xs L 2)) (2 * clp 1 (cvN xs L 1)) dg 0 (fun _ => 0) (fun _ => 0) (fun _ _ => nI 0) (fun _ _ => nI 0) 0 0 0 0 (fun _ => 0) 0 0 (fun _ => nI 0) (fun _ => nI 0) 0 (fun _ => nI 0) (fun _ => nI 0) 0 false 0 0 0 false (fun _ => 0) (fun _ => nI 0) 0 (fun _ => nI 0) (fun _ => nI 0)) ++ [oC G ao (fun _ => 0)]) ++ (wM G uu dg2 (clp 1 (cvN xs L 1)) (clp 2 (cvN xs L 2)) 0 0 (fun _ => 0) (fun _ => nI 0) (fun _ => 0) (fun _ => nI 0) (fun _ => 0) 0 (fun _ => 0) (fun _ => 0) 0 0 0 0 0 (nI 0) (fun _ => nI 0) (fun _ => nI 0) (fun _ => nI 0))) [0, 1, 2, 3, 4, 5, 6, 7, 8, 9, 10, 11, 12, 13, 14, 15, 16, 17, 18, 19, 20, 21, 22, 23, 24, 25, 26, 27, 41, 28, 29, 30, 31, 32, 33, 34, 35, 36, 37, 38, 39, 40] (by decide) rfl
  refine lv_astore_n (lv' := [(3, .ref ao), (2, .ref q1), (1, .ref q0), (0, .ref b)]) hx hb d_L_law_49 rfl hl (by decide) rfl (fun ls hl => ?_)
  refine lv_iconst (v := nI 3) hx hb d_L_law_50 (by decide) ?_
  refine lv_istore (lv' := [(4, .int (nI 3)), (3, .ref ao), (2, .ref q1), (1, .ref q0), (0, .ref b)]) hx hb d_L_law_51 hl (by decide) rfl (fun ls hl => ?_)
  obtain rfl : dg2 = dg := nIj (by omega) (by omega) (edg2.symm.trans edg)
  have hc1 := clp_le (lo := 1) (x := cvN xs L 1) (by decide)
  have hc2 := clp_le (lo := 2) (x := cvN xs L 2) (by decide)
  have hR : RelW G q0 q1 0 (wW G hh (clp 2 (cvN xs L 2)) (2 * clp 1 (cvN xs L 1)) dg2 0 (fun _ => 0) (fun _ => 0) (fun _ _ => nI 0) (fun _ _ => nI 0) 0 0 0 0 (fun _ => 0) 0 0 (fun _ => nI 0) (fun _ => nI 0) 0 (fun _ => nI 0) (fun _ => nI 0) 0 false 0 0 0 false (fun _ => 0) (fun _ => nI 0) 0 (fun _ => nI 0) (fun _ => nI 0)) (wM G uu dg2 (clp 1 (cvN xs L 1)) (clp 2 (cvN xs L 2)) 0 0 (fun _ => 0) (fun _ => nI 0) (fun _ => 0) (fun _ => nI 0) (fun _ => 0) 0 (fun _ => 0) (fun _ => 0) 0 0 0 0 0 (nI 0) (fun _ => nI 0) (fun _ => nI 0) (fun _ => nI 0)) := ⟨_, _, _, _, _, _, _, _, _, _, _, _, _, _, _, _, _, _, _, _, _, _, _, _, _, _, _, _, _, _, _, _, _, _, _, _, _, _, _, _, _, _, _, rfl, rfl, ⟨hh0, uu0⟩, ⟨hdg2, hc1.1, hc1.2, hc2.1, hc2.2, Nat.zero_le _, Nat.zero_le _⟩, ⟨fun _ => by decide, fun _ => by decide⟩, fun j => Or.inl ⟨rfl, rfl⟩, fun j _ => ⟨fun i h => absurd h (Nat.not_lt_zero _), fun i h => absurd h (Nat.not_lt_zero _)⟩⟩
  refine W.widen (k := 50 + 3) (n := 640000 + 6 * 3) (by omega) (by omega) ?_
  exact law_loop hlt C hr hlocks hAs hL (L + 7) 3 _ _ 0 _ H locs ls (by omega) (by omega) hR hP hD hS (lv_sub hl [4, 3, 2, 1, 0] rfl)
