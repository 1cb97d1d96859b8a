/-! the law -/
theorem rel_len {G : gl} {bx bm th : Nat} {w1 w2 : va_W} (h : RelW G bx bm th w1 w2) : (∃ fs, w1[0]? = some (bx, .inr (4, fs))) ∧ ∃ fs, w2[0]? = some (bm, .inr (5, fs)) := by
  obtain ⟨h9, u, dg, mp, ml, tl, sk, sc, sf, so, n, p, fk, fp, t, k, c, f, o, bt, bk, bn, ln, ks, la, nx, py, fi, rb, de, wt, wk, wn, pl, xy, ou, wr, sl, q, va, oa, oc, ok, rfl, rfl, ⟨rfl, rfl⟩, ⟨hdg, hmp1, hmp, hml2, hml, htl, hln⟩, ⟨ht, hrb⟩, hsl, hrel⟩ := h
  exact ⟨⟨_, rfl⟩, ⟨_, rfl⟩⟩
theorem j_thrown (l : Launch) {G : gl} {bx bm th : Nat} {w1 w2 : va_W} (h : RelW G bx bm th w1 w2) : YC l G y_M_thrown k_M_thrown 1 (Option.some FieldType.int) 0 0 [.ref bm] w2 (fun v w => v = some (.int (nI th)) ∧ w = w2) (fun _ _ => False) := by
  obtain ⟨h9, u, dg, mp, ml, tl, sk, sc, sf, so, n, p, fk, fp, t, k, c, f, o, bt, bk, bn, ln, ks, la, nx, py, fi, rb, de, wt, wk, wn, pl, xy, ou, wr, sl, q, va, oa, oc, ok, rfl, rfl, ⟨rfl, rfl⟩, ⟨hdg, hmp1, hmp, hml2, hml, htl, hln⟩, ⟨ht, hrb⟩, hsl, hrel⟩ := h
  exact c_M_thrown l G u dg mp ml th tl t pl sk xy sc ln rb ou wr sl q fk fp va oa oc ok
theorem at_rW (a b : va_W) {y : Nat × va_E} (h : b[0]? = some y) : (a ++ b)[a.length]? = some y := by
  rw [List.getElem?_append_right (Nat.le_refl _), Nat.sub_self]; exact h
theorem at_mW (a b : va_W) (x : Nat × va_E) : ((a ++ [x]) ++ b)[a.length]? = some x := by
  rw [List.getElem?_append_left (by simp)]; simp
theorem xcN_ne {Es : List String} {E : String} (h : Es.length ≤ 3) : ¬ xcN Es E = 0 := by
  unfold xcN
  intro z
  have h1 : Es.idxOf E ≤ Es.length := List.idxOf_le_length
  have := (eq0 (by omega)).mp z
  omega
theorem gt6 {L i : Nat} (hL : L < 2 ^ 30) (hi : i < 2 ^ 30) : nI L - nI 6 < nI i ↔ L < i + 6 := by
  rw [Int32.lt_iff_toInt_lt, pk_sub_toInt hL (by decide), nI_toInt (by omega)]
  omega
theorem y_inc6 (a : Nat) : nI a + Int32.ofInt 6 = nI (a + 6) := by rw [show Int32.ofInt 6 = nI 6 from by decide, nI_add]
def LC (G : gl) (A : Nat → Prop) (p : Program) (s : State) (m : MethodId) (c : Code) (b L : Nat) (xs : Nat → Int32) : Prop :=
  p.tables.exec = Jvm.exec ∧ c.code = code ∧ c.maxLocals = 7 ∧ s.vm.findClass "WordShapesLaw" = some m.cls ∧ (∀ w ∈ GT, w.before #[Value.ref b] s = true) ∧ EV G A s s.heap ∧ va_K (gD G) vwC (gT G) s ∧ (∀ q : Nat, s.heap.size ≤ q → A q) ∧ Nc5 s ∧ va_X b L xs s s.heap ∧ b < s.heap.size ∧ ¬ A b

set_option maxHeartbeats 4000000 in
set_option maxRecDepth 100000 in
theorem k_feed {p : Program} {l : Launch} {e : Env} {s : State} {m : MethodId} {below : List Frame} {meth : Method} {c : Code} {Q : State → Prop} {G : gl} {A : Nat → Prop} {b L : Nat} {xs : Nat → Int32} {bx bm ao : Nat} (hlt : l.stackTraces = false) (C : LC G A p s m c b L xs) {i : Nat} (hi : i + 6 ≤ L) (hL : L ≤ 3075) {w1 w2 : va_W} {th : Nat} {f : Nat → Int64} {H : Heap} {locs : List Loc} {ls : Array Slot} (hR : RelW G bx bm th w1 w2) (hP : va_P (gD G) vwC ((w1 ++ [oC G ao f]) ++ w2) H) (hD : va_D A ((w1 ++ [oC G ao f]) ++ w2)) (hS : va_S A s.heap H locs) (hl : lv_has ls 7 [(0, .ref b), (1, .ref bx), (2, .ref bm), (3, .ref ao), (4, .int (nI i))]) (kn : ∀ (w1' w2' : va_W) (th' : Nat) (f' : Nat → Int64) (H' : Heap) (locs' : List Loc) (ls' : Array Slot), RelW G bx bm th' w1' w2' → va_P (gD G) vwC ((w1' ++ [oC G ao f']) ++ w2') H' → va_D A ((w1' ++ [oC G ao f']) ++ w2') → va_S A s.heap H' locs' → lv_has ls' 7 [(0, .ref b), (1, .ref bx), (2, .ref bm), (3, .ref ao), (4, .int (nI i))] → W p l e room_1 s m #[Value.ref b] below meth c H' locs' (50 + i + 1) (640000 + 6 * i + 6) Q (F0 m 816 ls' [])) : W p l e room_1 s m #[Value.ref b] below meth c H locs (50 + i) (640000 + 6 * i) Q (F0 m 128 ls []) := by
  obtain ⟨hx, hb, hml, hown, hg, hE, hK, hA, hN, hX, hbl, hbA⟩ := C
  obtain ⟨⟨fs1, hw0⟩, fs2, hw2⟩ := rel_len hR
  obtain ⟨post, px, postM, hcW, hcM, hpv, hpx, hpm, hj1, hj2⟩ := j_feed hlt (xs (i + 1)) (xs (i + 2)) (xs (i + 3)) (xs (i + 4)) (xs (i + 5)) hR
  refine lv_aload_n hx hb d_L_law_128 rfl (lv_at hl 1 rfl) ?_
  refine lv_aload_n hx hb d_L_law_129 rfl (lv_at hl 0 rfl) ?_
  refine lv_iload hx hb d_L_law_130 (lv_at hl 4 rfl) ?_
  refine lv_iconst (v := nI 1) hx hb d_L_law_132 (by decide) ?_
  refine lv_iadd hx hb d_L_law_133 ?_
  refine y_eqi (nI_add _ _) ?_
  refine va_sld hx hb hX hbl hbA hS (vp_in_nI (show i + 1 < L by omega) (by omega)) d_L_law_134 ?_
  rw [nI_clamp (show i + 1 < 2 ^ 31 by omega)]
  refine lv_aload_n hx hb d_L_law_135 rfl (lv_at hl 0 rfl) ?_
  refine lv_iload hx hb d_L_law_136 (lv_at hl 4 rfl) ?_
  refine lv_iconst (v := nI 2) hx hb d_L_law_138 (by decide) ?_
  refine lv_iadd hx hb d_L_law_139 ?_
  refine y_eqi (nI_add _ _) ?_
  refine va_sld hx hb hX hbl hbA hS (vp_in_nI (show i + 2 < L by omega) (by omega)) d_L_law_140 ?_
  rw [nI_clamp (show i + 2 < 2 ^ 31 by omega)]
  refine lv_aload_n hx hb d_L_law_141 rfl (lv_at hl 0 rfl) ?_
  refine lv_iload hx hb d_L_law_142 (lv_at hl 4 rfl) ?_
  refine lv_iconst (v := nI 3) hx hb d_L_law_144 (by decide) ?_
  refine lv_iadd hx hb d_L_law_145 ?_
  refine y_eqi (nI_add _ _) ?_
  refine va_sld hx hb hX hbl hbA hS (vp_in_nI (show i + 3 < L by omega) (by omega)) d_L_law_146 ?_
  rw [nI_clamp (show i + 3 < 2 ^ 31 by omega)]
  refine lv_aload_n hx hb d_L_law_147 rfl (lv_at hl 0 rfl) ?_
  refine lv_iload hx hb d_L_law_148 (lv_at hl 4 rfl) ?_
  refine lv_iconst (v := nI 4) hx hb d_L_law_150 (by decide) ?_
  refine lv_iadd hx hb d_L_law_151 ?_
  refine y_eqi (nI_add _ _) ?_
  refine va_sld hx hb hX hbl hbA hS (vp_in_nI (show i + 4 < L by omega) (by omega)) d_L_law_152 ?_
  rw [nI_clamp (show i + 4 < 2 ^ 31 by omega)]
  refine lv_aload_n hx hb d_L_law_153 rfl (lv_at hl 0 rfl) ?_
  refine lv_iload hx hb d_L_law_154 (lv_at hl 4 rfl) ?_
  refine lv_iconst (v := nI 5) hx hb d_L_law_156 (by decide) ?_
  refine lv_iadd hx hb d_L_law_157 ?_
  refine y_eqi (nI_add _ _) ?_
  refine va_sld hx hb hX hbl hbA hS (vp_in_nI (show i + 5 < L by omega) (by omega)) d_L_law_158 ?_
  rw [nI_clamp (show i + 5 < 2 ^ 31 by omega)]
  refine lv_aload_n hx hb d_L_law_159 rfl (lv_at hl 3 rfl) ?_
  refine yh_call (wa := w1 ++ [oC G ao f]) (wb := w2) (vx_runSW (As := [.ref bx, .int (xs (i + 1)), .int (xs (i + 2)), .int (xs (i + 3)), .int (xs (i + 4)), .int (xs (i + 5)), .ref ao]) (rest := []) ⟨hx, hb, hml, hown, hg⟩ (c_L_feed l G bx ao w1 _ hw0 f (xs (i + 1)) (xs (i + 2)) (xs (i + 3)) (xs (i + 4)) (xs (i + 5)) post px hcW hpv (fun E w h => by simpa using hpx E w h) H.size) (gSW (n := 7) hg tk_181 tk_182 tk_0 (gt_m tq_183 rfl) (by decide +kernel) ⟨Nat.le_of_ble_eq_true rfl, Nat.le_of_ble_eq_true rfl⟩) (yh_pre hN hE hK hP hD hS hA) rfl rfl hl.1 rfl (lv_room (Nat.le_of_ble_eq_true rfl)) d_L_law_160 ⟨by show _ ≤ 601024; omega, by show _ ≤ 7293000; omega⟩) hP hD hS hA (fun r w9 H locs hp hlw hP hD hS => ?_)
  rcases hp with ⟨x, w1a, f1, hq1, rfl, hf1, rfl⟩ | ⟨E, w1a, hq1, rfl, rfl⟩
  · skip
    have hP : va_P (gD G) vwC ((w1a ++ [oC G ao f1]) ++ w2) H := hP
    have hD : va_D A ((w1a ++ [oC G ao f1]) ++ w2) := hD
    refine lv_istore (lv' := [(5, .int (nI 0)), (0, .ref b), (1, .ref bx), (2, .ref bm), (3, .ref ao), (4, .int (nI i))]) hx hb d_L_law_163 hl (by decide) rfl (fun ls hl => ?_)
    refine lv_aload_n hx hb d_L_law_165 rfl (lv_at hl 3 rfl) ?_
    refine lv_aload_n hx hb d_L_law_166 rfl (lv_at hl 1 rfl) ?_
    refine lv_iload hx hb d_L_law_167 (lv_at hl 5 rfl) ?_
    refine lv_iconst (v := nI 1) hx hb d_L_law_169 (by decide) ?_
    refine lv_iadd hx hb d_L_law_170 ?_
    refine y_eqi (nI_add _ _) ?_
    refine va_sld hx hb hX hbl hbA hS (vp_in_nI (show i + 1 < L by omega) (by omega)) d_L_law_171 ?_
    rw [nI_clamp (show i + 1 < 2 ^ 31 by omega)]
    refine lv_aload_n hx hb d_L_law_172 rfl (lv_at hl 1 rfl) ?_
    refine lv_iload hx hb d_L_law_173 (lv_at hl 5 rfl) ?_
    refine lv_iconst (v := nI 2) hx hb d_L_law_175 (by decide) ?_
    refine lv_iadd hx hb d_L_law_176 ?_
    refine y_eqi (nI_add _ _) ?_
    refine va_sld hx hb hX hbl hbA hS (vp_in_nI (show i + 2 < L by omega) (by omega)) d_L_law_177 ?_
    rw [nI_clamp (show i + 2 < 2 ^ 31 by omega)]
    refine lv_aload_n hx hb d_L_law_178 rfl (lv_at hl 1 rfl) ?_
    refine lv_iload hx hb d_L_law_179 (lv_at hl 5 rfl) ?_
    refine lv_iconst (v := nI 3) hx hb d_L_law_181 (by decide) ?_
    refine lv_iadd hx hb d_L_law_182 ?_
    refine y_eqi (nI_add _ _) ?_
    refine va_sld hx hb hX hbl hbA hS (vp_in_nI (show i + 3 < L by omega) (by omega)) d_L_law_183 ?_
    rw [nI_clamp (show i + 3 < 2 ^ 31 by omega)]
    refine lv_aload_n hx hb d_L_law_184 rfl (lv_at hl 1 rfl) ?_
    refine lv_iload hx hb d_L_law_185 (lv_at hl 5 rfl) ?_
    refine lv_iconst (v := nI 4) hx hb d_L_law_187 (by decide) ?_
    refine lv_iadd hx hb d_L_law_188 ?_
    refine y_eqi (nI_add _ _) ?_
    refine va_sld hx hb hX hbl hbA hS (vp_in_nI (show i + 4 < L by omega) (by omega)) d_L_law_189 ?_
    rw [nI_clamp (show i + 4 < 2 ^ 31 by omega)]
    refine lv_aload_n hx hb d_L_law_190 rfl (lv_at hl 1 rfl) ?_
    refine lv_iload hx hb d_L_law_191 (lv_at hl 5 rfl) ?_
    refine lv_iconst (v := nI 5) hx hb d_L_law_193 (by decide) ?_
    refine lv_iadd hx hb d_L_law_194 ?_
    refine y_eqi (nI_add _ _) ?_
    refine va_sld hx hb hX hbl hbA hS (vp_in_nI (show i + 5 < L by omega) (by omega)) d_L_law_195 ?_
    rw [nI_clamp (show i + 5 < 2 ^ 31 by omega)]
    refine y_callR (wa := w1a ++ [oC G ao f1]) (wb := w2) (y_runV (As := [.int (xs (i + 1)), .int (xs (i + 2)), .int (xs (i + 3)), .int (xs (i + 4)), .int (xs (i + 5))]) (rest := []) hx hb hml hown hcM (gV (n := 5) hg tk_760 tk_761 tk_762 tk_7 tk_763 (by decide +kernel) ⟨Nat.le_of_ble_eq_true rfl, Nat.le_of_ble_eq_true rfl⟩) (va_recv hK hP (ci := 5) (q0 := (w1a ++ [oC G ao f1]).length) rfl (at_rW _ _ hw2)) (y_preR hE hK hP hD hS hA) rfl rfl hl.1 rfl (lv_room (Nat.le_of_ble_eq_true rfl)) d_L_law_196 ⟨by show _ ≤ 601024; omega, by show _ ≤ 7293000; omega⟩) hP hD hS hA (fun _ _ h => h) (fun v w2a H locs hp2 hlw2 hP hD hS => ?_)
    obtain ⟨y, rfl⟩ := hpm v w2a hp2
    obtain ⟨exy, hR⟩ := hj1 x _ y _ hq1 hp2
    have hP : va_P (gD G) vwC ((w1a ++ [oC G ao f1]) ++ w2a) H := hP
    have hD : va_D A ((w1a ++ [oC G ao f1]) ++ w2a) := hD
    refine W.eq (g2 := F0 m 199 ls [.int y]) rfl ?_
    refine lv_istore (lv' := [(6, .int y), (5, .int (nI 0)), (0, .ref b), (1, .ref bx), (2, .ref bm), (3, .ref ao), (4, .int (nI i))]) hx hb d_L_law_199 hl (by decide) rfl (fun ls hl => ?_)
    refine lv_aload_n hx hb d_L_law_201 rfl (lv_at hl 4 rfl) ?_
    refine y_callR (wa := w1a ++ [oC G ao f1]) (wb := w2a) (y_runV (As := []) (rest := []) hx hb hml hown (j_thrown l hR) (gV (n := 0) hg tk_756 tk_757 tk_758 tk_7 tk_759 (by decide +kernel) ⟨Nat.le_of_ble_eq_true rfl, Nat.le_of_ble_eq_true rfl⟩) (va_recv hK hP (ci := 5) (q0 := (w1a ++ [oC G ao f1]).length) rfl (at_rW _ _ (rel_len hR).2.choose_spec)) (y_preR hE hK hP hD hS hA) rfl rfl hl.1 rfl (lv_room (Nat.le_of_ble_eq_true rfl)) d_L_law_202 ⟨by show _ ≤ 601024; omega, by show _ ≤ 7293000; omega⟩) hP hD hS hA (fun _ _ h => h) (fun v w9b H locs hp2 hlw2 hP hD hS => ?_)
    obtain ⟨rfl, hw9⟩ := hp2
    rw [hw9] at hP hD
    have hP : va_P (gD G) vwC ((w1a ++ [oC G ao f1]) ++ w2a) H := hP
    have hD : va_D A ((w1a ++ [oC G ao f1]) ++ w2a) := hD
    refine W.eq (g2 := F0 m 205 ls [.int (nI 0)]) rfl ?_
    refine lv_iload hx hb d_L_law_205 (lv_at hl 1 rfl) ?_
    refine yn_icmp_eq (a := 0) (b := 0) (tgt := 212) hx hb d_L_law_207 (by decide) (by omega) (by omega) (fun c207 => ?_) (fun c207 => ?_)
    · skip
      refine lv_iload hx hb d_L_law_212 (lv_at hl 1 rfl) ?_
      refine yn_if_ne (a := 0) (tgt := 229) hx hb d_L_law_214 (by decide) (by omega) (fun c214 => ?_) (fun c214 => ?_)
      · skip
        exact absurd c214 (by decide)
      · skip
        refine lv_aload_n hx hb d_L_law_217 rfl (lv_at hl 5 rfl) ?_
        refine lv_iconst (v := nI 0) hx hb d_L_law_218 (by decide) ?_
        refine va_lald hx hb hK hP w1a.length 3 (at_mW _ _ _) rfl (vp_in_nI (by decide) (by decide)) d_L_law_219 ?_
        rw [nI_clamp (show 0 < 2 ^ 31 by decide)]
        refine lv_iload hx hb d_L_law_220 (lv_at hl 0 rfl) ?_
        refine lv_i2l hx hb d_L_law_222 (v := y.toInt64) rfl ?_
        refine yq_eq (a := f1 0) (b := y.toInt64) (tgt := 229) hx hb d_L_law_223 d_L_law_224 (by decide) (fun c224 => ?_) (fun c224 => ?_)
        · skip
          refine lv_goto (tgt := 816) hx hb d_L_law_229 (by decide) ?_
          refine W.widen (k := 50 + i + 1) (n := 640000 + 6 * i + 6) (by omega) (by omega) ?_
          exact kn _ _ _ _ _ _ _ hR hP hD hS (lv_sub hl [2, 3, 4, 5, 6] rfl)
        · skip
          exact absurd c224 (fun z => z (by rw [hf1, exy]))
    · skip
      exact absurd c207 (by decide)
  · skip
    have hP : va_P (gD G) vwC ((w1a ++ [oC G ao f]) ++ w2) H := hP
    have hD : va_D A ((w1a ++ [oC G ao f]) ++ w2) := hD
    refine lv_istore (lv' := [(5, .int (xcN ["java/lang/IllegalStateException"] E)), (0, .ref b), (1, .ref bx), (2, .ref bm), (3, .ref ao), (4, .int (nI i))]) hx hb d_L_law_163 hl (by decide) rfl (fun ls hl => ?_)
    refine lv_aload_n hx hb d_L_law_165 rfl (lv_at hl 3 rfl) ?_
    refine lv_aload_n hx hb d_L_law_166 rfl (lv_at hl 1 rfl) ?_
    refine lv_iload hx hb d_L_law_167 (lv_at hl 5 rfl) ?_
    refine lv_iconst (v := nI 1) hx hb d_L_law_169 (by decide) ?_
    refine lv_iadd hx hb d_L_law_170 ?_
    refine y_eqi (nI_add _ _) ?_
    refine va_sld hx hb hX hbl hbA hS (vp_in_nI (show i + 1 < L by omega) (by omega)) d_L_law_171 ?_
    rw [nI_clamp (show i + 1 < 2 ^ 31 by omega)]
    refine lv_aload_n hx hb d_L_law_172 rfl (lv_at hl 1 rfl) ?_
    refine lv_iload hx hb d_L_law_173 (lv_at hl 5 rfl) ?_
    refine lv_iconst (v := nI 2) hx hb d_L_law_175 (by decide) ?_
    refine lv_iadd hx hb d_L_law_176 ?_
    refine y_eqi (nI_add _ _) ?_
    refine va_sld hx hb hX hbl hbA hS (vp_in_nI (show i + 2 < L by omega) (by omega)) d_L_law_177 ?_
    rw [nI_clamp (show i + 2 < 2 ^ 31 by omega)]
    refine lv_aload_n hx hb d_L_law_178 rfl (lv_at hl 1 rfl) ?_
    refine lv_iload hx hb d_L_law_179 (lv_at hl 5 rfl) ?_
    refine lv_iconst (v := nI 3) hx hb d_L_law_181 (by decide) ?_
    refine lv_iadd hx hb d_L_law_182 ?_
    refine y_eqi (nI_add _ _) ?_
    refine va_sld hx hb hX hbl hbA hS (vp_in_nI (show i + 3 < L by omega) (by omega)) d_L_law_183 ?_
    rw [nI_clamp (show i + 3 < 2 ^ 31 by omega)]
    refine lv_aload_n hx hb d_L_law_184 rfl (lv_at hl 1 rfl) ?_
    refine lv_iload hx hb d_L_law_185 (lv_at hl 5 rfl) ?_
    refine lv_iconst (v := nI 4) hx hb d_L_law_187 (by decide) ?_
    refine lv_iadd hx hb d_L_law_188 ?_
    refine y_eqi (nI_add _ _) ?_
    refine va_sld hx hb hX hbl hbA hS (vp_in_nI (show i + 4 < L by omega) (by omega)) d_L_law_189 ?_
    rw [nI_clamp (show i + 4 < 2 ^ 31 by omega)]
    refine lv_aload_n hx hb d_L_law_190 rfl (lv_at hl 1 rfl) ?_
    refine lv_iload hx hb d_L_law_191 (lv_at hl 5 rfl) ?_
    refine lv_iconst (v := nI 5) hx hb d_L_law_193 (by decide) ?_
    refine lv_iadd hx hb d_L_law_194 ?_
    refine y_eqi (nI_add _ _) ?_
    refine va_sld hx hb hX hbl hbA hS (vp_in_nI (show i + 5 < L by omega) (by omega)) d_L_law_195 ?_
    rw [nI_clamp (show i + 5 < 2 ^ 31 by omega)]
    refine y_callR (wa := w1a ++ [oC G ao f]) (wb := w2) (y_runV (As := [.int (xs (i + 1)), .int (xs (i + 2)), .int (xs (i + 3)), .int (xs (i + 4)), .int (xs (i + 5))]) (rest := []) hx hb hml hown hcM (gV (n := 5) hg tk_760 tk_761 tk_762 tk_7 tk_763 (by decide +kernel) ⟨Nat.le_of_ble_eq_true rfl, Nat.le_of_ble_eq_true rfl⟩) (va_recv hK hP (ci := 5) (q0 := (w1a ++ [oC G ao f]).length) rfl (at_rW _ _ hw2)) (y_preR hE hK hP hD hS hA) rfl rfl hl.1 rfl (lv_room (Nat.le_of_ble_eq_true rfl)) d_L_law_196 ⟨by show _ ≤ 601024; omega, by show _ ≤ 7293000; omega⟩) hP hD hS hA (fun _ _ h => h) (fun v w2a H locs hp2 hlw2 hP hD hS => ?_)
    obtain ⟨y, rfl⟩ := hpm v w2a hp2
    obtain ⟨k9, hk9, hR⟩ := hj2 E _ y _ hq1 hp2
    have hP : va_P (gD G) vwC ((w1a ++ [oC G ao f]) ++ w2a) H := hP
    have hD : va_D A ((w1a ++ [oC G ao f]) ++ w2a) := hD
    refine W.eq (g2 := F0 m 199 ls [.int y]) rfl ?_
    refine lv_istore (lv' := [(6, .int y), (5, .int (xcN ["java/lang/IllegalStateException"] E)), (0, .ref b), (1, .ref bx), (2, .ref bm), (3, .ref ao), (4, .int (nI i))]) hx hb d_L_law_199 hl (by decide) rfl (fun ls hl => ?_)
    refine lv_aload_n hx hb d_L_law_201 rfl (lv_at hl 4 rfl) ?_
    refine y_callR (wa := w1a ++ [oC G ao f]) (wb := w2a) (y_runV (As := []) (rest := []) hx hb hml hown (j_thrown l hR) (gV (n := 0) hg tk_756 tk_757 tk_758 tk_7 tk_759 (by decide +kernel) ⟨Nat.le_of_ble_eq_true rfl, Nat.le_of_ble_eq_true rfl⟩) (va_recv hK hP (ci := 5) (q0 := (w1a ++ [oC G ao f]).length) rfl (at_rW _ _ (rel_len hR).2.choose_spec)) (y_preR hE hK hP hD hS hA) rfl rfl hl.1 rfl (lv_room (Nat.le_of_ble_eq_true rfl)) d_L_law_202 ⟨by show _ ≤ 601024; omega, by show _ ≤ 7293000; omega⟩) hP hD hS hA (fun _ _ h => h) (fun v w9b H locs hp2 hlw2 hP hD hS => ?_)
    obtain ⟨rfl, hw9⟩ := hp2
    rw [hw9] at hP hD
    have hP : va_P (gD G) vwC ((w1a ++ [oC G ao f]) ++ w2a) H := hP
    have hD : va_D A ((w1a ++ [oC G ao f]) ++ w2a) := hD
    refine W.eq (g2 := F0 m 205 ls [.int (nI k9)]) rfl ?_
    refine lv_iload hx hb d_L_law_205 (lv_at hl 1 rfl) ?_
    refine lv_icmp_eq (tgt := 212) hx hb d_L_law_207 (by decide) (fun c207 => ?_) (fun c207 => ?_)
    · skip
      refine lv_iload hx hb d_L_law_212 (lv_at hl 1 rfl) ?_
      refine lv_if_ne (tgt := 229) hx hb d_L_law_214 (by decide) (fun c214 => ?_) (fun c214 => ?_)
      · skip
        refine lv_goto (tgt := 816) hx hb d_L_law_229 (by decide) ?_
        refine W.widen (k := 50 + i + 1) (n := 640000 + 6 * i + 6) (by omega) (by omega) ?_
        exact kn _ _ _ _ _ _ _ hR hP hD hS (lv_sub hl [2, 3, 4, 5, 6] rfl)
      · skip
        exact absurd c214 (xcN_ne (by decide))
    · skip
      exact absurd c207 (fun z => z hk9.symm)
set_option maxHeartbeats 4000000 in
set_option maxRecDepth 100000 in
theorem k_end {p : Program} {l : Launch} {e : Env} {s : State} {m : MethodId} {below : List Frame} {meth : Method} {c : Code} {Q : State → Prop} {G : gl} {A : Nat → Prop} {b L : Nat} {xs : Nat → Int32} {bx bm ao : Nat} (hlt : l.stackTraces = false) (C : LC G A p s m c b L xs) {i : Nat} (hi : i + 6 ≤ L) (hL : L ≤ 3075) {w1 w2 : va_W} {th : Nat} {f : Nat → Int64} {H : Heap} {locs : List Loc} {ls : Array Slot} (hR : RelW G bx bm th w1 w2) (hP : va_P (gD G) vwC ((w1 ++ [oC G ao f]) ++ w2) H) (hD : va_D A ((w1 ++ [oC G ao f]) ++ w2)) (hS : va_S A s.heap H locs) (hl : lv_has ls 7 [(0, .ref b), (1, .ref bx), (2, .ref bm), (3, .ref ao), (4, .int (nI i))]) (kn : ∀ (w1' w2' : va_W) (th' : Nat) (f' : Nat → Int64) (H' : Heap) (locs' : List Loc) (ls' : Array Slot), RelW G bx bm th' w1' w2' → va_P (gD G) vwC ((w1' ++ [oC G ao f']) ++ w2') H' → va_D A ((w1' ++ [oC G ao f']) ++ w2') → va_S A s.heap H' locs' → lv_has ls' 7 [(0, .ref b), (1, .ref bx), (2, .ref bm), (3, .ref ao), (4, .int (nI i))] → W p l e room_1 s m #[Value.ref b] below meth c H' locs' (50 + i + 1) (640000 + 6 * i + 6) Q (F0 m 816 ls' [])) : W p l e room_1 s m #[Value.ref b] below meth c H locs (50 + i) (640000 + 6 * i) Q (F0 m 232 ls []) := by
  obtain ⟨hx, hb, hml, hown, hg, hE, hK, hA, hN, hX, hbl, hbA⟩ := C
  obtain ⟨⟨fs1, hw0⟩, fs2, hw2⟩ := rel_len hR
  obtain ⟨post, px, postM, hcW, hcM, hpv, hpx, hpm, hj1, hj2⟩ := j_end hlt (xs (i + 1)) hR
  refine lv_aload_n hx hb d_L_law_232 rfl (lv_at hl 1 rfl) ?_
  refine lv_aload_n hx hb d_L_law_233 rfl (lv_at hl 0 rfl) ?_
  refine lv_iload hx hb d_L_law_234 (lv_at hl 4 rfl) ?_
  refine lv_iconst (v := nI 1) hx hb d_L_law_236 (by decide) ?_
  refine lv_iadd hx hb d_L_law_237 ?_
  refine y_eqi (nI_add _ _) ?_
  refine va_sld hx hb hX hbl hbA hS (vp_in_nI (show i + 1 < L by omega) (by omega)) d_L_law_238 ?_
  rw [nI_clamp (show i + 1 < 2 ^ 31 by omega)]
  refine lv_aload_n hx hb d_L_law_239 rfl (lv_at hl 3 rfl) ?_
  refine yh_call (wa := w1 ++ [oC G ao f]) (wb := w2) (vx_runSW (As := [.ref bx, .int (xs (i + 1)), .ref ao]) (rest := []) ⟨hx, hb, hml, hown, hg⟩ (c_L_end l G bx ao w1 _ hw0 f (xs (i + 1)) post px hcW hpv (fun E w h => by simpa using hpx E w h) H.size) (gSW (n := 3) hg tk_262 tk_263 tk_0 (gt_m tq_264 rfl) (by decide +kernel) ⟨Nat.le_of_ble_eq_true rfl, Nat.le_of_ble_eq_true rfl⟩) (yh_pre hN hE hK hP hD hS hA) rfl rfl hl.1 rfl (lv_room (Nat.le_of_ble_eq_true rfl)) d_L_law_240 ⟨by show _ ≤ 601024; omega, by show _ ≤ 7293000; omega⟩) hP hD hS hA (fun r w9 H locs hp hlw hP hD hS => ?_)
  rcases hp with ⟨x, w1a, f1, hq1, rfl, hf1, rfl⟩ | ⟨E, w1a, hq1, rfl, rfl⟩
  · skip
    have hP : va_P (gD G) vwC ((w1a ++ [oC G ao f1]) ++ w2) H := hP
    have hD : va_D A ((w1a ++ [oC G ao f1]) ++ w2) := hD
    refine lv_istore (lv' := [(5, .int (nI 0)), (0, .ref b), (1, .ref bx), (2, .ref bm), (3, .ref ao), (4, .int (nI i))]) hx hb d_L_law_243 hl (by decide) rfl (fun ls hl => ?_)
    refine lv_aload_n hx hb d_L_law_245 rfl (lv_at hl 3 rfl) ?_
    refine lv_aload_n hx hb d_L_law_246 rfl (lv_at hl 1 rfl) ?_
    refine lv_iload hx hb d_L_law_247 (lv_at hl 5 rfl) ?_
    refine lv_iconst (v := nI 1) hx hb d_L_law_249 (by decide) ?_
    refine lv_iadd hx hb d_L_law_250 ?_
    refine y_eqi (nI_add _ _) ?_
    refine va_sld hx hb hX hbl hbA hS (vp_in_nI (show i + 1 < L by omega) (by omega)) d_L_law_251 ?_
    rw [nI_clamp (show i + 1 < 2 ^ 31 by omega)]
    refine y_callR (wa := w1a ++ [oC G ao f1]) (wb := w2) (y_runV (As := [.int (xs (i + 1))]) (rest := []) hx hb hml hown hcM (gV (n := 1) hg tk_768 tk_769 tk_770 tk_7 tk_771 (by decide +kernel) ⟨Nat.le_of_ble_eq_true rfl, Nat.le_of_ble_eq_true rfl⟩) (va_recv hK hP (ci := 5) (q0 := (w1a ++ [oC G ao f1]).length) rfl (at_rW _ _ hw2)) (y_preR hE hK hP hD hS hA) rfl rfl hl.1 rfl (lv_room (Nat.le_of_ble_eq_true rfl)) d_L_law_252 ⟨by show _ ≤ 601024; omega, by show _ ≤ 7293000; omega⟩) hP hD hS hA (fun _ _ h => h) (fun v w2a H locs hp2 hlw2 hP hD hS => ?_)
    obtain ⟨y, rfl⟩ := hpm v w2a hp2
    obtain ⟨exy, hR⟩ := hj1 x _ y _ hq1 hp2
    have hP : va_P (gD G) vwC ((w1a ++ [oC G ao f1]) ++ w2a) H := hP
    have hD : va_D A ((w1a ++ [oC G ao f1]) ++ w2a) := hD
    refine W.eq (g2 := F0 m 255 ls [.int y]) rfl ?_
    refine lv_istore (lv' := [(6, .int y), (5, .int (nI 0)), (0, .ref b), (1, .ref bx), (2, .ref bm), (3, .ref ao), (4, .int (nI i))]) hx hb d_L_law_255 hl (by decide) rfl (fun ls hl => ?_)
    refine lv_aload_n hx hb d_L_law_257 rfl (lv_at hl 4 rfl) ?_
    refine y_callR (wa := w1a ++ [oC G ao f1]) (wb := w2a) (y_runV (As := []) (rest := []) hx hb hml hown (j_thrown l hR) (gV (n := 0) hg tk_756 tk_757 tk_758 tk_7 tk_759 (by decide +kernel) ⟨Nat.le_of_ble_eq_true rfl, Nat.le_of_ble_eq_true rfl⟩) (va_recv hK hP (ci := 5) (q0 := (w1a ++ [oC G ao f1]).length) rfl (at_rW _ _ (rel_len hR).2.choose_spec)) (y_preR hE hK hP hD hS hA) rfl rfl hl.1 rfl (lv_room (Nat.le_of_ble_eq_true rfl)) d_L_law_258 ⟨by show _ ≤ 601024; omega, by show _ ≤ 7293000; omega⟩) hP hD hS hA (fun _ _ h => h) (fun v w9b H locs hp2 hlw2 hP hD hS => ?_)
    obtain ⟨rfl, hw9⟩ := hp2
    rw [hw9] at hP hD
    have hP : va_P (gD G) vwC ((w1a ++ [oC G ao f1]) ++ w2a) H := hP
    have hD : va_D A ((w1a ++ [oC G ao f1]) ++ w2a) := hD
    refine W.eq (g2 := F0 m 261 ls [.int (nI 0)]) rfl ?_
    refine lv_iload hx hb d_L_law_261 (lv_at hl 1 rfl) ?_
    refine yn_icmp_eq (a := 0) (b := 0) (tgt := 268) hx hb d_L_law_263 (by decide) (by omega) (by omega) (fun c263 => ?_) (fun c263 => ?_)
    · skip
      refine lv_iload hx hb d_L_law_268 (lv_at hl 1 rfl) ?_
      refine yn_if_ne (a := 0) (tgt := 285) hx hb d_L_law_270 (by decide) (by omega) (fun c270 => ?_) (fun c270 => ?_)
      · skip
        exact absurd c270 (by decide)
      · skip
        refine lv_aload_n hx hb d_L_law_273 rfl (lv_at hl 5 rfl) ?_
        refine lv_iconst (v := nI 0) hx hb d_L_law_274 (by decide) ?_
        refine va_lald hx hb hK hP w1a.length 3 (at_mW _ _ _) rfl (vp_in_nI (by decide) (by decide)) d_L_law_275 ?_
        rw [nI_clamp (show 0 < 2 ^ 31 by decide)]
        refine lv_iload hx hb d_L_law_276 (lv_at hl 0 rfl) ?_
        refine lv_i2l hx hb d_L_law_278 (v := y.toInt64) rfl ?_
        refine yq_eq (a := f1 0) (b := y.toInt64) (tgt := 285) hx hb d_L_law_279 d_L_law_280 (by decide) (fun c280 => ?_) (fun c280 => ?_)
        · skip
          refine lv_goto (tgt := 816) hx hb d_L_law_285 (by decide) ?_
          refine W.widen (k := 50 + i + 1) (n := 640000 + 6 * i + 6) (by omega) (by omega) ?_
          exact kn _ _ _ _ _ _ _ hR hP hD hS (lv_sub hl [2, 3, 4, 5, 6] rfl)
        · skip
          exact absurd c280 (fun z => z (by rw [hf1, exy]))
    · skip
      exact absurd c263 (by decide)
  · skip
    have hP : va_P (gD G) vwC ((w1a ++ [oC G ao f]) ++ w2) H := hP
    have hD : va_D A ((w1a ++ [oC G ao f]) ++ w2) := hD
    refine lv_istore (lv' := [(5, .int (xcN ["java/lang/IllegalArgumentException", "java/lang/IllegalStateException"] E)), (0, .ref b), (1, .ref bx), (2, .ref bm), (3, .ref ao), (4, .int (nI i))]) hx hb d_L_law_243 hl (by decide) rfl (fun ls hl => ?_)
    refine lv_aload_n hx hb d_L_law_245 rfl (lv_at hl 3 rfl) ?_
    refine lv_aload_n hx hb d_L_law_246 rfl (lv_at hl 1 rfl) ?_
    refine lv_iload hx hb d_L_law_247 (lv_at hl 5 rfl) ?_
    refine lv_iconst (v := nI 1) hx hb d_L_law_249 (by decide) ?_
    refine lv_iadd hx hb d_L_law_250 ?_
    refine y_eqi (nI_add _ _) ?_
    refine va_sld hx hb hX hbl hbA hS (vp_in_nI (show i + 1 < L by omega) (by omega)) d_L_law_251 ?_
    rw [nI_clamp (show i + 1 < 2 ^ 31 by omega)]
    refine y_callR (wa := w1a ++ [oC G ao f]) (wb := w2) (y_runV (As := [.int (xs (i + 1))]) (rest := []) hx hb hml hown hcM (gV (n := 1) hg tk_768 tk_769 tk_770 tk_7 tk_771 (by decide +kernel) ⟨Nat.le_of_ble_eq_true rfl, Nat.le_of_ble_eq_true rfl⟩) (va_recv hK hP (ci := 5) (q0 := (w1a ++ [oC G ao f]).length) rfl (at_rW _ _ hw2)) (y_preR hE hK hP hD hS hA) rfl rfl hl.1 rfl (lv_room (Nat.le_of_ble_eq_true rfl)) d_L_law_252 ⟨by show _ ≤ 601024; omega, by show _ ≤ 7293000; omega⟩) hP hD hS hA (fun _ _ h => h) (fun v w2a H locs hp2 hlw2 hP hD hS => ?_)
    obtain ⟨y, rfl⟩ := hpm v w2a hp2
    obtain ⟨k9, hk9, hR⟩ := hj2 E _ y _ hq1 hp2
    have hP : va_P (gD G) vwC ((w1a ++ [oC G ao f]) ++ w2a) H := hP
    have hD : va_D A ((w1a ++ [oC G ao f]) ++ w2a) := hD
    refine W.eq (g2 := F0 m 255 ls [.int y]) rfl ?_
    refine lv_istore (lv' := [(6, .int y), (5, .int (xcN ["java/lang/IllegalArgumentException", "java/lang/IllegalStateException"] E)), (0, .ref b), (1, .ref bx), (2, .ref bm), (3, .ref ao), (4, .int (nI i))]) hx hb d_L_law_255 hl (by decide) rfl (fun ls hl => ?_)
    refine lv_aload_n hx hb d_L_law_257 rfl (lv_at hl 4 rfl) ?_
    refine y_callR (wa := w1a ++ [oC G ao f]) (wb := w2a) (y_runV (As := []) (rest := []) hx hb hml hown (j_thrown l hR) (gV (n := 0) hg tk_756 tk_757 tk_758 tk_7 tk_759 (by decide +kernel) ⟨Nat.le_of_ble_eq_true rfl, Nat.le_of_ble_eq_true rfl⟩) (va_recv hK hP (ci := 5) (q0 := (w1a ++ [oC G ao f]).length) rfl (at_rW _ _ (rel_len hR).2.choose_spec)) (y_preR hE hK hP hD hS hA) rfl rfl hl.1 rfl (lv_room (Nat.le_of_ble_eq_true rfl)) d_L_law_258 ⟨by show _ ≤ 601024; omega, by show _ ≤ 7293000; omega⟩) hP hD hS hA (fun _ _ h => h) (fun v w9b H locs hp2 hlw2 hP hD hS => ?_)
    obtain ⟨rfl, hw9⟩ := hp2
    rw [hw9] at hP hD
    have hP : va_P (gD G) vwC ((w1a ++ [oC G ao f]) ++ w2a) H := hP
    have hD : va_D A ((w1a ++ [oC G ao f]) ++ w2a) := hD
    refine W.eq (g2 := F0 m 261 ls [.int (nI k9)]) rfl ?_
    refine lv_iload hx hb d_L_law_261 (lv_at hl 1 rfl) ?_
    refine lv_icmp_eq (tgt := 268) hx hb d_L_law_263 (by decide) (fun c263 => ?_) (fun c263 => ?_)
    · skip
      refine lv_iload hx hb d_L_law_268 (lv_at hl 1 rfl) ?_
      refine lv_if_ne (tgt := 285) hx hb d_L_law_270 (by decide) (fun c270 => ?_) (fun c270 => ?_)
      · skip
        refine lv_goto (tgt := 816) hx hb d_L_law_285 (by decide) ?_
        refine W.widen (k := 50 + i + 1) (n := 640000 + 6 * i + 6) (by omega) (by omega) ?_
        exact kn _ _ _ _ _ _ _ hR hP hD hS (lv_sub hl [2, 3, 4, 5, 6] rfl)
      · skip
        exact absurd c270 (xcN_ne (by decide))
    · skip
      exact absurd c263 (fun z => z hk9.symm)
set_option maxHeartbeats 4000000 in
set_option maxRecDepth 100000 in
theorem k_read {p : Program} {l : Launch} {e : Env} {s : State} {m : MethodId} {below : List Frame} {meth : Method} {c : Code} {Q : State → Prop} {G : gl} {A : Nat → Prop} {b L : Nat} {xs : Nat → Int32} {bx bm ao : Nat} (hlt : l.stackTraces = false) (C : LC G A p s m c b L xs) {i : Nat} (hi : i + 6 ≤ L) (hL : L ≤ 3075) {w1 w2 : va_W} {th : Nat} {f : Nat → Int64} {H : Heap} {locs : List Loc} {ls : Array Slot} (hR : RelW G bx bm th w1 w2) (hP : va_P (gD G) vwC ((w1 ++ [oC G ao f]) ++ w2) H) (hD : va_D A ((w1 ++ [oC G ao f]) ++ w2)) (hS : va_S A s.heap H locs) (hl : lv_has ls 7 [(0, .ref b), (1, .ref bx), (2, .ref bm), (3, .ref ao), (4, .int (nI i))]) (kn : ∀ (w1' w2' : va_W) (th' : Nat) (f' : Nat → Int64) (H' : Heap) (locs' : List Loc) (ls' : Array Slot), RelW G bx bm th' w1' w2' → va_P (gD G) vwC ((w1' ++ [oC G ao f']) ++ w2') H' → va_D A ((w1' ++ [oC G ao f']) ++ w2') → va_S A s.heap H' locs' → lv_has ls' 7 [(0, .ref b), (1, .ref bx), (2, .ref bm), (3, .ref ao), (4, .int (nI i))] → W p l e room_1 s m #[Value.ref b] below meth c H' locs' (50 + i + 1) (640000 + 6 * i + 6) Q (F0 m 816 ls' [])) : W p l e room_1 s m #[Value.ref b] below meth c H locs (50 + i) (640000 + 6 * i) Q (F0 m 288 ls []) := by
  obtain ⟨hx, hb, hml, hown, hg, hE, hK, hA, hN, hX, hbl, hbA⟩ := C
  obtain ⟨⟨fs1, hw0⟩, fs2, hw2⟩ := rel_len hR
  obtain ⟨post, px, postM, hcW, hcM, hpv, hpx, hpm, hj1, hj2⟩ := j_read hlt (xs (i + 1)) hR
  refine lv_aload_n hx hb d_L_law_288 rfl (lv_at hl 1 rfl) ?_
  refine lv_aload_n hx hb d_L_law_289 rfl (lv_at hl 0 rfl) ?_
  refine lv_iload hx hb d_L_law_290 (lv_at hl 4 rfl) ?_
  refine lv_iconst (v := nI 1) hx hb d_L_law_292 (by decide) ?_
  refine lv_iadd hx hb d_L_law_293 ?_
  refine y_eqi (nI_add _ _) ?_
  refine va_sld hx hb hX hbl hbA hS (vp_in_nI (show i + 1 < L by omega) (by omega)) d_L_law_294 ?_
  rw [nI_clamp (show i + 1 < 2 ^ 31 by omega)]
  refine lv_aload_n hx hb d_L_law_295 rfl (lv_at hl 3 rfl) ?_
  refine yh_call (wa := w1 ++ [oC G ao f]) (wb := w2) (vx_runSW (As := [.ref bx, .int (xs (i + 1)), .ref ao]) (rest := []) ⟨hx, hb, hml, hown, hg⟩ (c_L_read l G bx ao w1 _ hw0 f (xs (i + 1)) post px hcW hpv (fun E w h => by simpa using hpx E w h) H.size) (gSW (n := 3) hg tk_287 tk_288 tk_0 (gt_m tq_289 rfl) (by decide +kernel) ⟨Nat.le_of_ble_eq_true rfl, Nat.le_of_ble_eq_true rfl⟩) (yh_pre hN hE hK hP hD hS hA) rfl rfl hl.1 rfl (lv_room (Nat.le_of_ble_eq_true rfl)) d_L_law_296 ⟨by show _ ≤ 601024; omega, by show _ ≤ 7293000; omega⟩) hP hD hS hA (fun r w9 H locs hp hlw hP hD hS => ?_)
  rcases hp with ⟨x, w1a, f1, hq1, rfl, hf1, rfl⟩ | ⟨E, w1a, hq1, rfl, rfl⟩
  · skip
    have hP : va_P (gD G) vwC ((w1a ++ [oC G ao f1]) ++ w2) H := hP
    have hD : va_D A ((w1a ++ [oC G ao f1]) ++ w2) := hD
    refine lv_istore (lv' := [(5, .int (nI 0)), (0, .ref b), (1, .ref bx), (2, .ref bm), (3, .ref ao), (4, .int (nI i))]) hx hb d_L_law_299 hl (by decide) rfl (fun ls hl => ?_)
    refine lv_aload_n hx hb d_L_law_301 rfl (lv_at hl 3 rfl) ?_
    refine lv_aload_n hx hb d_L_law_302 rfl (lv_at hl 1 rfl) ?_
    refine lv_iload hx hb d_L_law_303 (lv_at hl 5 rfl) ?_
    refine lv_iconst (v := nI 1) hx hb d_L_law_305 (by decide) ?_
    refine lv_iadd hx hb d_L_law_306 ?_
    refine y_eqi (nI_add _ _) ?_
    refine va_sld hx hb hX hbl hbA hS (vp_in_nI (show i + 1 < L by omega) (by omega)) d_L_law_307 ?_
    rw [nI_clamp (show i + 1 < 2 ^ 31 by omega)]
    refine y_callR (wa := w1a ++ [oC G ao f1]) (wb := w2) (y_runV (As := [.int (xs (i + 1))]) (rest := []) hx hb hml hown hcM (gV (n := 1) hg tk_775 tk_776 tk_777 tk_7 tk_778 (by decide +kernel) ⟨Nat.le_of_ble_eq_true rfl, Nat.le_of_ble_eq_true rfl⟩) (va_recv hK hP (ci := 5) (q0 := (w1a ++ [oC G ao f1]).length) rfl (at_rW _ _ hw2)) (y_preR hE hK hP hD hS hA) rfl rfl hl.1 rfl (lv_room (Nat.le_of_ble_eq_true rfl)) d_L_law_308 ⟨by show _ ≤ 601024; omega, by show _ ≤ 7293000; omega⟩) hP hD hS hA (fun _ _ h => h) (fun v w2a H locs hp2 hlw2 hP hD hS => ?_)
    obtain ⟨y, rfl⟩ := hpm v w2a hp2
    obtain ⟨exy, hR⟩ := hj1 x _ y _ hq1 hp2
    have hP : va_P (gD G) vwC ((w1a ++ [oC G ao f1]) ++ w2a) H := hP
    have hD : va_D A ((w1a ++ [oC G ao f1]) ++ w2a) := hD
    refine W.eq (g2 := F0 m 311 ls [.int y]) rfl ?_
    refine lv_istore (lv' := [(6, .int y), (5, .int (nI 0)), (0, .ref b), (1, .ref bx), (2, .ref bm), (3, .ref ao), (4, .int (nI i))]) hx hb d_L_law_311 hl (by decide) rfl (fun ls hl => ?_)
    refine lv_aload_n hx hb d_L_law_313 rfl (lv_at hl 4 rfl) ?_
    refine y_callR (wa := w1a ++ [oC G ao f1]) (wb := w2a) (y_runV (As := []) (rest := []) hx hb hml hown (j_thrown l hR) (gV (n := 0) hg tk_756 tk_757 tk_758 tk_7 tk_759 (by decide +kernel) ⟨Nat.le_of_ble_eq_true rfl, Nat.le_of_ble_eq_true rfl⟩) (va_recv hK hP (ci := 5) (q0 := (w1a ++ [oC G ao f1]).length) rfl (at_rW _ _ (rel_len hR).2.choose_spec)) (y_preR hE hK hP hD hS hA) rfl rfl hl.1 rfl (lv_room (Nat.le_of_ble_eq_true rfl)) d_L_law_314 ⟨by show _ ≤ 601024; omega, by show _ ≤ 7293000; omega⟩) hP hD hS hA (fun _ _ h => h) (fun v w9b H locs hp2 hlw2 hP hD hS => ?_)
    obtain ⟨rfl, hw9⟩ := hp2
    rw [hw9] at hP hD
    have hP : va_P (gD G) vwC ((w1a ++ [oC G ao f1]) ++ w2a) H := hP
    have hD : va_D A ((w1a ++ [oC G ao f1]) ++ w2a) := hD
    refine W.eq (g2 := F0 m 317 ls [.int (nI 0)]) rfl ?_
    refine lv_iload hx hb d_L_law_317 (lv_at hl 1 rfl) ?_
    refine yn_icmp_eq (a := 0) (b := 0) (tgt := 324) hx hb d_L_law_319 (by decide) (by omega) (by omega) (fun c319 => ?_) (fun c319 => ?_)
    · skip
      refine lv_iload hx hb d_L_law_324 (lv_at hl 1 rfl) ?_
      refine yn_if_ne (a := 0) (tgt := 341) hx hb d_L_law_326 (by decide) (by omega) (fun c326 => ?_) (fun c326 => ?_)
      · skip
        exact absurd c326 (by decide)
      · skip
        refine lv_aload_n hx hb d_L_law_329 rfl (lv_at hl 5 rfl) ?_
        refine lv_iconst (v := nI 0) hx hb d_L_law_330 (by decide) ?_
        refine va_lald hx hb hK hP w1a.length 3 (at_mW _ _ _) rfl (vp_in_nI (by decide) (by decide)) d_L_law_331 ?_
        rw [nI_clamp (show 0 < 2 ^ 31 by decide)]
        refine lv_iload hx hb d_L_law_332 (lv_at hl 0 rfl) ?_
        refine lv_i2l hx hb d_L_law_334 (v := y.toInt64) rfl ?_
        refine yq_eq (a := f1 0) (b := y.toInt64) (tgt := 341) hx hb d_L_law_335 d_L_law_336 (by decide) (fun c336 => ?_) (fun c336 => ?_)
        · skip
          refine lv_goto (tgt := 816) hx hb d_L_law_341 (by decide) ?_
          refine W.widen (k := 50 + i + 1) (n := 640000 + 6 * i + 6) (by omega) (by omega) ?_
          exact kn _ _ _ _ _ _ _ hR hP hD hS (lv_sub hl [2, 3, 4, 5, 6] rfl)
        · skip
          exact absurd c336 (fun z => z (by rw [hf1, exy]))
    · skip
      exact absurd c319 (by decide)
  · skip
    have hP : va_P (gD G) vwC ((w1a ++ [oC G ao f]) ++ w2) H := hP
    have hD : va_D A ((w1a ++ [oC G ao f]) ++ w2) := hD
    refine lv_istore (lv' := [(5, .int (xcN ["java/lang/IndexOutOfBoundsException", "java/lang/IllegalArgumentException"] E)), (0, .ref b), (1, .ref bx), (2, .ref bm), (3, .ref ao), (4, .int (nI i))]) hx hb d_L_law_299 hl (by decide) rfl (fun ls hl => ?_)
    refine lv_aload_n hx hb d_L_law_301 rfl (lv_at hl 3 rfl) ?_
    refine lv_aload_n hx hb d_L_law_302 rfl (lv_at hl 1 rfl) ?_
    refine lv_iload hx hb d_L_law_303 (lv_at hl 5 rfl) ?_
    refine lv_iconst (v := nI 1) hx hb d_L_law_305 (by decide) ?_
    refine lv_iadd hx hb d_L_law_306 ?_
    refine y_eqi (nI_add _ _) ?_
    refine va_sld hx hb hX hbl hbA hS (vp_in_nI (show i + 1 < L by omega) (by omega)) d_L_law_307 ?_
    rw [nI_clamp (show i + 1 < 2 ^ 31 by omega)]
    refine y_callR (wa := w1a ++ [oC G ao f]) (wb := w2) (y_runV (As := [.int (xs (i + 1))]) (rest := []) hx hb hml hown hcM (gV (n := 1) hg tk_775 tk_776 tk_777 tk_7 tk_778 (by decide +kernel) ⟨Nat.le_of_ble_eq_true rfl, Nat.le_of_ble_eq_true rfl⟩) (va_recv hK hP (ci := 5) (q0 := (w1a ++ [oC G ao f]).length) rfl (at_rW _ _ hw2)) (y_preR hE hK hP hD hS hA) rfl rfl hl.1 rfl (lv_room (Nat.le_of_ble_eq_true rfl)) d_L_law_308 ⟨by show _ ≤ 601024; omega, by show _ ≤ 7293000; omega⟩) hP hD hS hA (fun _ _ h => h) (fun v w2a H locs hp2 hlw2 hP hD hS => ?_)
    obtain ⟨y, rfl⟩ := hpm v w2a hp2
    obtain ⟨k9, hk9, hR⟩ := hj2 E _ y _ hq1 hp2
    have hP : va_P (gD G) vwC ((w1a ++ [oC G ao f]) ++ w2a) H := hP
    have hD : va_D A ((w1a ++ [oC G ao f]) ++ w2a) := hD
    refine W.eq (g2 := F0 m 311 ls [.int y]) rfl ?_
    refine lv_istore (lv' := [(6, .int y), (5, .int (xcN ["java/lang/IndexOutOfBoundsException", "java/lang/IllegalArgumentException"] E)), (0, .ref b), (1, .ref bx), (2, .ref bm), (3, .ref ao), (4, .int (nI i))]) hx hb d_L_law_311 hl (by decide) rfl (fun ls hl => ?_)
    refine lv_aload_n hx hb d_L_law_313 rfl (lv_at hl 4 rfl) ?_
    refine y_callR (wa := w1a ++ [oC G ao f]) (wb := w2a) (y_runV (As := []) (rest := []) hx hb hml hown (j_thrown l hR) (gV (n := 0) hg tk_756 tk_757 tk_758 tk_7 tk_759 (by decide +kernel) ⟨Nat.le_of_ble_eq_true rfl, Nat.le_of_ble_eq_true rfl⟩) (va_recv hK hP (ci := 5) (q0 := (w1a ++ [oC G ao f]).length) rfl (at_rW _ _ (rel_len hR).2.choose_spec)) (y_preR hE hK hP hD hS hA) rfl rfl hl.1 rfl (lv_room (Nat.le_of_ble_eq_true rfl)) d_L_law_314 ⟨by show _ ≤ 601024; omega, by show _ ≤ 7293000; omega⟩) hP hD hS hA (fun _ _ h => h) (fun v w9b H locs hp2 hlw2 hP hD hS => ?_)
    obtain ⟨rfl, hw9⟩ := hp2
    rw [hw9] at hP hD
    have hP : va_P (gD G) vwC ((w1a ++ [oC G ao f]) ++ w2a) H := hP
    have hD : va_D A ((w1a ++ [oC G ao f]) ++ w2a) := hD
    refine W.eq (g2 := F0 m 317 ls [.int (nI k9)]) rfl ?_
    refine lv_iload hx hb d_L_law_317 (lv_at hl 1 rfl) ?_
    refine lv_icmp_eq (tgt := 324) hx hb d_L_law_319 (by decide) (fun c319 => ?_) (fun c319 => ?_)
    · skip
      refine lv_iload hx hb d_L_law_324 (lv_at hl 1 rfl) ?_
      refine lv_if_ne (tgt := 341) hx hb d_L_law_326 (by decide) (fun c326 => ?_) (fun c326 => ?_)
      · skip
        refine lv_goto (tgt := 816) hx hb d_L_law_341 (by decide) ?_
        refine W.widen (k := 50 + i + 1) (n := 640000 + 6 * i + 6) (by omega) (by omega) ?_
        exact kn _ _ _ _ _ _ _ hR hP hD hS (lv_sub hl [2, 3, 4, 5, 6] rfl)
      · skip
        exact absurd c326 (xcN_ne (by decide))
    · skip
      exact absurd c319 (fun z => z hk9.symm)
set_option maxHeartbeats 4000000 in
set_option maxRecDepth 100000 in
theorem k_fault {p : Program} {l : Launch} {e : Env} {s : State} {m : MethodId} {below : List Frame} {meth : Method} {c : Code} {Q : State → Prop} {G : gl} {A : Nat → Prop} {b L : Nat} {xs : Nat → Int32} {bx bm ao : Nat} (hlt : l.stackTraces = false) (C : LC G A p s m c b L xs) {i : Nat} (hi : i + 6 ≤ L) (hL : L ≤ 3075) {w1 w2 : va_W} {th : Nat} {f : Nat → Int64} {H : Heap} {locs : List Loc} {ls : Array Slot} (hR : RelW G bx bm th w1 w2) (hP : va_P (gD G) vwC ((w1 ++ [oC G ao f]) ++ w2) H) (hD : va_D A ((w1 ++ [oC G ao f]) ++ w2)) (hS : va_S A s.heap H locs) (hl : lv_has ls 7 [(0, .ref b), (1, .ref bx), (2, .ref bm), (3, .ref ao), (4, .int (nI i))]) (kn : ∀ (w1' w2' : va_W) (th' : Nat) (f' : Nat → Int64) (H' : Heap) (locs' : List Loc) (ls' : Array Slot), RelW G bx bm th' w1' w2' → va_P (gD G) vwC ((w1' ++ [oC G ao f']) ++ w2') H' → va_D A ((w1' ++ [oC G ao f']) ++ w2') → va_S A s.heap H' locs' → lv_has ls' 7 [(0, .ref b), (1, .ref bx), (2, .ref bm), (3, .ref ao), (4, .int (nI i))] → W p l e room_1 s m #[Value.ref b] below meth c H' locs' (50 + i + 1) (640000 + 6 * i + 6) Q (F0 m 816 ls' [])) : W p l e room_1 s m #[Value.ref b] below meth c H locs (50 + i) (640000 + 6 * i) Q (F0 m 344 ls []) := by
  obtain ⟨hx, hb, hml, hown, hg, hE, hK, hA, hN, hX, hbl, hbA⟩ := C
  obtain ⟨⟨fs1, hw0⟩, fs2, hw2⟩ := rel_len hR
  obtain ⟨post, px, postM, hcW, hcM, hpv, hpx, hpm, hj1, hj2⟩ := j_fault hlt (xs (i + 1)) hR
  refine lv_aload_n hx hb d_L_law_344 rfl (lv_at hl 1 rfl) ?_
  refine lv_aload_n hx hb d_L_law_345 rfl (lv_at hl 0 rfl) ?_
  refine lv_iload hx hb d_L_law_346 (lv_at hl 4 rfl) ?_
  refine lv_iconst (v := nI 1) hx hb d_L_law_348 (by decide) ?_
  refine lv_iadd hx hb d_L_law_349 ?_
  refine y_eqi (nI_add _ _) ?_
  refine va_sld hx hb hX hbl hbA hS (vp_in_nI (show i + 1 < L by omega) (by omega)) d_L_law_350 ?_
  rw [nI_clamp (show i + 1 < 2 ^ 31 by omega)]
  refine lv_aload_n hx hb d_L_law_351 rfl (lv_at hl 3 rfl) ?_
  refine yh_call (wa := w1 ++ [oC G ao f]) (wb := w2) (vx_runSW (As := [.ref bx, .int (xs (i + 1)), .ref ao]) (rest := []) ⟨hx, hb, hml, hown, hg⟩ (c_L_fault l G bx ao w1 _ hw0 f (xs (i + 1)) post px hcW hpv (fun E w h => by simpa using hpx E w h) H.size) (gSW (n := 3) hg tk_541 tk_542 tk_0 (gt_m tq_543 rfl) (by decide +kernel) ⟨Nat.le_of_ble_eq_true rfl, Nat.le_of_ble_eq_true rfl⟩) (yh_pre hN hE hK hP hD hS hA) rfl rfl hl.1 rfl (lv_room (Nat.le_of_ble_eq_true rfl)) d_L_law_352 ⟨by show _ ≤ 601024; omega, by show _ ≤ 7293000; omega⟩) hP hD hS hA (fun r w9 H locs hp hlw hP hD hS => ?_)
  rcases hp with ⟨x, w1a, f1, hq1, rfl, hf1, rfl⟩ | ⟨E, w1a, hq1, rfl, rfl⟩
  · skip
    have hP : va_P (gD G) vwC ((w1a ++ [oC G ao f1]) ++ w2) H := hP
    have hD : va_D A ((w1a ++ [oC G ao f1]) ++ w2) := hD
    refine lv_istore (lv' := [(5, .int (nI 0)), (0, .ref b), (1, .ref bx), (2, .ref bm), (3, .ref ao), (4, .int (nI i))]) hx hb d_L_law_355 hl (by decide) rfl (fun ls hl => ?_)
    refine lv_aload_n hx hb d_L_law_357 rfl (lv_at hl 3 rfl) ?_
    refine lv_aload_n hx hb d_L_law_358 rfl (lv_at hl 1 rfl) ?_
    refine lv_iload hx hb d_L_law_359 (lv_at hl 5 rfl) ?_
    refine lv_iconst (v := nI 1) hx hb d_L_law_361 (by decide) ?_
    refine lv_iadd hx hb d_L_law_362 ?_
    refine y_eqi (nI_add _ _) ?_
    refine va_sld hx hb hX hbl hbA hS (vp_in_nI (show i + 1 < L by omega) (by omega)) d_L_law_363 ?_
    rw [nI_clamp (show i + 1 < 2 ^ 31 by omega)]
    refine y_callR (wa := w1a ++ [oC G ao f1]) (wb := w2) (y_runV (As := [.int (xs (i + 1))]) (rest := []) hx hb hml hown hcM (gV (n := 1) hg tk_891 tk_892 tk_893 tk_7 tk_894 (by decide +kernel) ⟨Nat.le_of_ble_eq_true rfl, Nat.le_of_ble_eq_true rfl⟩) (va_recv hK hP (ci := 5) (q0 := (w1a ++ [oC G ao f1]).length) rfl (at_rW _ _ hw2)) (y_preR hE hK hP hD hS hA) rfl rfl hl.1 rfl (lv_room (Nat.le_of_ble_eq_true rfl)) d_L_law_364 ⟨by show _ ≤ 601024; omega, by show _ ≤ 7293000; omega⟩) hP hD hS hA (fun _ _ h => h) (fun v w2a H locs hp2 hlw2 hP hD hS => ?_)
    obtain ⟨y, rfl⟩ := hpm v w2a hp2
    obtain ⟨exy, hR⟩ := hj1 x _ y _ hq1 hp2
    have hP : va_P (gD G) vwC ((w1a ++ [oC G ao f1]) ++ w2a) H := hP
    have hD : va_D A ((w1a ++ [oC G ao f1]) ++ w2a) := hD
    refine W.eq (g2 := F0 m 367 ls [.int y]) rfl ?_
    refine lv_istore (lv' := [(6, .int y), (5, .int (nI 0)), (0, .ref b), (1, .ref bx), (2, .ref bm), (3, .ref ao), (4, .int (nI i))]) hx hb d_L_law_367 hl (by decide) rfl (fun ls hl => ?_)
    refine lv_aload_n hx hb d_L_law_369 rfl (lv_at hl 4 rfl) ?_
    refine y_callR (wa := w1a ++ [oC G ao f1]) (wb := w2a) (y_runV (As := []) (rest := []) hx hb hml hown (j_thrown l hR) (gV (n := 0) hg tk_756 tk_757 tk_758 tk_7 tk_759 (by decide +kernel) ⟨Nat.le_of_ble_eq_true rfl, Nat.le_of_ble_eq_true rfl⟩) (va_recv hK hP (ci := 5) (q0 := (w1a ++ [oC G ao f1]).length) rfl (at_rW _ _ (rel_len hR).2.choose_spec)) (y_preR hE hK hP hD hS hA) rfl rfl hl.1 rfl (lv_room (Nat.le_of_ble_eq_true rfl)) d_L_law_370 ⟨by show _ ≤ 601024; omega, by show _ ≤ 7293000; omega⟩) hP hD hS hA (fun _ _ h => h) (fun v w9b H locs hp2 hlw2 hP hD hS => ?_)
    obtain ⟨rfl, hw9⟩ := hp2
    rw [hw9] at hP hD
    have hP : va_P (gD G) vwC ((w1a ++ [oC G ao f1]) ++ w2a) H := hP
    have hD : va_D A ((w1a ++ [oC G ao f1]) ++ w2a) := hD
    refine W.eq (g2 := F0 m 373 ls [.int (nI 0)]) rfl ?_
    refine lv_iload hx hb d_L_law_373 (lv_at hl 1 rfl) ?_
    refine yn_icmp_eq (a := 0) (b := 0) (tgt := 380) hx hb d_L_law_375 (by decide) (by omega) (by omega) (fun c375 => ?_) (fun c375 => ?_)
    · skip
      refine lv_iload hx hb d_L_law_380 (lv_at hl 1 rfl) ?_
      refine yn_if_ne (a := 0) (tgt := 397) hx hb d_L_law_382 (by decide) (by omega) (fun c382 => ?_) (fun c382 => ?_)
      · skip
        exact absurd c382 (by decide)
      · skip
        refine lv_aload_n hx hb d_L_law_385 rfl (lv_at hl 5 rfl) ?_
        refine lv_iconst (v := nI 0) hx hb d_L_law_386 (by decide) ?_
        refine va_lald hx hb hK hP w1a.length 3 (at_mW _ _ _) rfl (vp_in_nI (by decide) (by decide)) d_L_law_387 ?_
        rw [nI_clamp (show 0 < 2 ^ 31 by decide)]
        refine lv_iload hx hb d_L_law_388 (lv_at hl 0 rfl) ?_
        refine lv_i2l hx hb d_L_law_390 (v := y.toInt64) rfl ?_
        refine yq_eq (a := f1 0) (b := y.toInt64) (tgt := 397) hx hb d_L_law_391 d_L_law_392 (by decide) (fun c392 => ?_) (fun c392 => ?_)
        · skip
          refine lv_goto (tgt := 816) hx hb d_L_law_397 (by decide) ?_
          refine W.widen (k := 50 + i + 1) (n := 640000 + 6 * i + 6) (by omega) (by omega) ?_
          exact kn _ _ _ _ _ _ _ hR hP hD hS (lv_sub hl [2, 3, 4, 5, 6] rfl)
        · skip
          exact absurd c392 (fun z => z (by rw [hf1, exy]))
    · skip
      exact absurd c375 (by decide)
  · skip
    have hP : va_P (gD G) vwC ((w1a ++ [oC G ao f]) ++ w2) H := hP
    have hD : va_D A ((w1a ++ [oC G ao f]) ++ w2) := hD
    refine lv_istore (lv' := [(5, .int (xcN ["java/lang/IndexOutOfBoundsException"] E)), (0, .ref b), (1, .ref bx), (2, .ref bm), (3, .ref ao), (4, .int (nI i))]) hx hb d_L_law_355 hl (by decide) rfl (fun ls hl => ?_)
    refine lv_aload_n hx hb d_L_law_357 rfl (lv_at hl 3 rfl) ?_
    refine lv_aload_n hx hb d_L_law_358 rfl (lv_at hl 1 rfl) ?_
    refine lv_iload hx hb d_L_law_359 (lv_at hl 5 rfl) ?_
    refine lv_iconst (v := nI 1) hx hb d_L_law_361 (by decide) ?_
    refine lv_iadd hx hb d_L_law_362 ?_
    refine y_eqi (nI_add _ _) ?_
    refine va_sld hx hb hX hbl hbA hS (vp_in_nI (show i + 1 < L by omega) (by omega)) d_L_law_363 ?_
    rw [nI_clamp (show i + 1 < 2 ^ 31 by omega)]
    refine y_callR (wa := w1a ++ [oC G ao f]) (wb := w2) (y_runV (As := [.int (xs (i + 1))]) (rest := []) hx hb hml hown hcM (gV (n := 1) hg tk_891 tk_892 tk_893 tk_7 tk_894 (by decide +kernel) ⟨Nat.le_of_ble_eq_true rfl, Nat.le_of_ble_eq_true rfl⟩) (va_recv hK hP (ci := 5) (q0 := (w1a ++ [oC G ao f]).length) rfl (at_rW _ _ hw2)) (y_preR hE hK hP hD hS hA) rfl rfl hl.1 rfl (lv_room (Nat.le_of_ble_eq_true rfl)) d_L_law_364 ⟨by show _ ≤ 601024; omega, by show _ ≤ 7293000; omega⟩) hP hD hS hA (fun _ _ h => h) (fun v w2a H locs hp2 hlw2 hP hD hS => ?_)
    obtain ⟨y, rfl⟩ := hpm v w2a hp2
    obtain ⟨k9, hk9, hR⟩ := hj2 E _ y _ hq1 hp2
    have hP : va_P (gD G) vwC ((w1a ++ [oC G ao f]) ++ w2a) H := hP
    have hD : va_D A ((w1a ++ [oC G ao f]) ++ w2a) := hD
    refine W.eq (g2 := F0 m 367 ls [.int y]) rfl ?_
    refine lv_istore (lv' := [(6, .int y), (5, .int (xcN ["java/lang/IndexOutOfBoundsException"] E)), (0, .ref b), (1, .ref bx), (2, .ref bm), (3, .ref ao), (4, .int (nI i))]) hx hb d_L_law_367 hl (by decide) rfl (fun ls hl => ?_)
    refine lv_aload_n hx hb d_L_law_369 rfl (lv_at hl 4 rfl) ?_
    refine y_callR (wa := w1a ++ [oC G ao f]) (wb := w2a) (y_runV (As := []) (rest := []) hx hb hml hown (j_thrown l hR) (gV (n := 0) hg tk_756 tk_757 tk_758 tk_7 tk_759 (by decide +kernel) ⟨Nat.le_of_ble_eq_true rfl, Nat.le_of_ble_eq_true rfl⟩) (va_recv hK hP (ci := 5) (q0 := (w1a ++ [oC G ao f]).length) rfl (at_rW _ _ (rel_len hR).2.choose_spec)) (y_preR hE hK hP hD hS hA) rfl rfl hl.1 rfl (lv_room (Nat.le_of_ble_eq_true rfl)) d_L_law_370 ⟨by show _ ≤ 601024; omega, by show _ ≤ 7293000; omega⟩) hP hD hS hA (fun _ _ h => h) (fun v w9b H locs hp2 hlw2 hP hD hS => ?_)
    obtain ⟨rfl, hw9⟩ := hp2
    rw [hw9] at hP hD
    have hP : va_P (gD G) vwC ((w1a ++ [oC G ao f]) ++ w2a) H := hP
    have hD : va_D A ((w1a ++ [oC G ao f]) ++ w2a) := hD
    refine W.eq (g2 := F0 m 373 ls [.int (nI k9)]) rfl ?_
    refine lv_iload hx hb d_L_law_373 (lv_at hl 1 rfl) ?_
    refine lv_icmp_eq (tgt := 380) hx hb d_L_law_375 (by decide) (fun c375 => ?_) (fun c375 => ?_)
    · skip
      refine lv_iload hx hb d_L_law_380 (lv_at hl 1 rfl) ?_
      refine lv_if_ne (tgt := 397) hx hb d_L_law_382 (by decide) (fun c382 => ?_) (fun c382 => ?_)
      · skip
        refine lv_goto (tgt := 816) hx hb d_L_law_397 (by decide) ?_
        refine W.widen (k := 50 + i + 1) (n := 640000 + 6 * i + 6) (by omega) (by omega) ?_
        exact kn _ _ _ _ _ _ _ hR hP hD hS (lv_sub hl [2, 3, 4, 5, 6] rfl)
      · skip
        exact absurd c382 (xcN_ne (by decide))
    · skip
      exact absurd c375 (fun z => z hk9.symm)
set_option maxHeartbeats 4000000 in
set_option maxRecDepth 100000 in
theorem k_write {p : Program} {l : Launch} {e : Env} {s : State} {m : MethodId} {below : List Frame} {meth : Method} {c : Code} {Q : State → Prop} {G : gl} {A : Nat → Prop} {b L : Nat} {xs : Nat → Int32} {bx bm ao : Nat} (hlt : l.stackTraces = false) (C : LC G A p s m c b L xs) {i : Nat} (hi : i + 6 ≤ L) (hL : L ≤ 3075) {w1 w2 : va_W} {th : Nat} {f : Nat → Int64} {H : Heap} {locs : List Loc} {ls : Array Slot} (hR : RelW G bx bm th w1 w2) (hP : va_P (gD G) vwC ((w1 ++ [oC G ao f]) ++ w2) H) (hD : va_D A ((w1 ++ [oC G ao f]) ++ w2)) (hS : va_S A s.heap H locs) (hl : lv_has ls 7 [(0, .ref b), (1, .ref bx), (2, .ref bm), (3, .ref ao), (4, .int (nI i))]) (kn : ∀ (w1' w2' : va_W) (th' : Nat) (f' : Nat → Int64) (H' : Heap) (locs' : List Loc) (ls' : Array Slot), RelW G bx bm th' w1' w2' → va_P (gD G) vwC ((w1' ++ [oC G ao f']) ++ w2') H' → va_D A ((w1' ++ [oC G ao f']) ++ w2') → va_S A s.heap H' locs' → lv_has ls' 7 [(0, .ref b), (1, .ref bx), (2, .ref bm), (3, .ref ao), (4, .int (nI i))] → W p l e room_1 s m #[Value.ref b] below meth c H' locs' (50 + i + 1) (640000 + 6 * i + 6) Q (F0 m 816 ls' [])) : W p l e room_1 s m #[Value.ref b] below meth c H locs (50 + i) (640000 + 6 * i) Q (F0 m 400 ls []) := by
  obtain ⟨hx, hb, hml, hown, hg, hE, hK, hA, hN, hX, hbl, hbA⟩ := C
  obtain ⟨⟨fs1, hw0⟩, fs2, hw2⟩ := rel_len hR
  obtain ⟨post, px, postM, hcW, hcM, hpv, hpx, hpm, hj1, hj2⟩ := j_write hlt (xs (i + 1)) hR
  refine lv_aload_n hx hb d_L_law_400 rfl (lv_at hl 1 rfl) ?_
  refine lv_aload_n hx hb d_L_law_401 rfl (lv_at hl 0 rfl) ?_
  refine lv_iload hx hb d_L_law_402 (lv_at hl 4 rfl) ?_
  refine lv_iconst (v := nI 1) hx hb d_L_law_404 (by decide) ?_
  refine lv_iadd hx hb d_L_law_405 ?_
  refine y_eqi (nI_add _ _) ?_
  refine va_sld hx hb hX hbl hbA hS (vp_in_nI (show i + 1 < L by omega) (by omega)) d_L_law_406 ?_
  rw [nI_clamp (show i + 1 < 2 ^ 31 by omega)]
  refine lv_aload_n hx hb d_L_law_407 rfl (lv_at hl 3 rfl) ?_
  refine yh_call (wa := w1 ++ [oC G ao f]) (wb := w2) (vx_runSW (As := [.ref bx, .int (xs (i + 1)), .ref ao]) (rest := []) ⟨hx, hb, hml, hown, hg⟩ (c_L_write l G bx ao w1 _ hw0 f (xs (i + 1)) post px hcW hpv (fun E w h => by simpa using hpx E w h) H.size) (gSW (n := 3) hg tk_549 tk_550 tk_0 (gt_m tq_551 rfl) (by decide +kernel) ⟨Nat.le_of_ble_eq_true rfl, Nat.le_of_ble_eq_true rfl⟩) (yh_pre hN hE hK hP hD hS hA) rfl rfl hl.1 rfl (lv_room (Nat.le_of_ble_eq_true rfl)) d_L_law_408 ⟨by show _ ≤ 601024; omega, by show _ ≤ 7293000; omega⟩) hP hD hS hA (fun r w9 H locs hp hlw hP hD hS => ?_)
  rcases hp with ⟨x, w1a, f1, hq1, rfl, hf1, rfl⟩ | ⟨E, w1a, hq1, rfl, rfl⟩
  · skip
    have hP : va_P (gD G) vwC ((w1a ++ [oC G ao f1]) ++ w2) H := hP
    have hD : va_D A ((w1a ++ [oC G ao f1]) ++ w2) := hD
    refine lv_istore (lv' := [(5, .int (nI 0)), (0, .ref b), (1, .ref bx), (2, .ref bm), (3, .ref ao), (4, .int (nI i))]) hx hb d_L_law_411 hl (by decide) rfl (fun ls hl => ?_)
    refine lv_aload_n hx hb d_L_law_413 rfl (lv_at hl 3 rfl) ?_
    refine lv_aload_n hx hb d_L_law_414 rfl (lv_at hl 1 rfl) ?_
    refine lv_iload hx hb d_L_law_415 (lv_at hl 5 rfl) ?_
    refine lv_iconst (v := nI 1) hx hb d_L_law_417 (by decide) ?_
    refine lv_iadd hx hb d_L_law_418 ?_
    refine y_eqi (nI_add _ _) ?_
    refine va_sld hx hb hX hbl hbA hS (vp_in_nI (show i + 1 < L by omega) (by omega)) d_L_law_419 ?_
    rw [nI_clamp (show i + 1 < 2 ^ 31 by omega)]
    refine y_callR (wa := w1a ++ [oC G ao f1]) (wb := w2) (y_runV (As := [.int (xs (i + 1))]) (rest := []) hx hb hml hown hcM (gV (n := 1) hg tk_895 tk_896 tk_897 tk_7 tk_898 (by decide +kernel) ⟨Nat.le_of_ble_eq_true rfl, Nat.le_of_ble_eq_true rfl⟩) (va_recv hK hP (ci := 5) (q0 := (w1a ++ [oC G ao f1]).length) rfl (at_rW _ _ hw2)) (y_preR hE hK hP hD hS hA) rfl rfl hl.1 rfl (lv_room (Nat.le_of_ble_eq_true rfl)) d_L_law_420 ⟨by show _ ≤ 601024; omega, by show _ ≤ 7293000; omega⟩) hP hD hS hA (fun _ _ h => h) (fun v w2a H locs hp2 hlw2 hP hD hS => ?_)
    obtain ⟨y, rfl⟩ := hpm v w2a hp2
    obtain ⟨exy, hR⟩ := hj1 x _ y _ hq1 hp2
    have hP : va_P (gD G) vwC ((w1a ++ [oC G ao f1]) ++ w2a) H := hP
    have hD : va_D A ((w1a ++ [oC G ao f1]) ++ w2a) := hD
    refine W.eq (g2 := F0 m 423 ls [.int y]) rfl ?_
    refine lv_istore (lv' := [(6, .int y), (5, .int (nI 0)), (0, .ref b), (1, .ref bx), (2, .ref bm), (3, .ref ao), (4, .int (nI i))]) hx hb d_L_law_423 hl (by decide) rfl (fun ls hl => ?_)
    refine lv_aload_n hx hb d_L_law_425 rfl (lv_at hl 4 rfl) ?_
    refine y_callR (wa := w1a ++ [oC G ao f1]) (wb := w2a) (y_runV (As := []) (rest := []) hx hb hml hown (j_thrown l hR) (gV (n := 0) hg tk_756 tk_757 tk_758 tk_7 tk_759 (by decide +kernel) ⟨Nat.le_of_ble_eq_true rfl, Nat.le_of_ble_eq_true rfl⟩) (va_recv hK hP (ci := 5) (q0 := (w1a ++ [oC G ao f1]).length) rfl (at_rW _ _ (rel_len hR).2.choose_spec)) (y_preR hE hK hP hD hS hA) rfl rfl hl.1 rfl (lv_room (Nat.le_of_ble_eq_true rfl)) d_L_law_426 ⟨by show _ ≤ 601024; omega, by show _ ≤ 7293000; omega⟩) hP hD hS hA (fun _ _ h => h) (fun v w9b H locs hp2 hlw2 hP hD hS => ?_)
    obtain ⟨rfl, hw9⟩ := hp2
    rw [hw9] at hP hD
    have hP : va_P (gD G) vwC ((w1a ++ [oC G ao f1]) ++ w2a) H := hP
    have hD : va_D A ((w1a ++ [oC G ao f1]) ++ w2a) := hD
    refine W.eq (g2 := F0 m 429 ls [.int (nI 0)]) rfl ?_
    refine lv_iload hx hb d_L_law_429 (lv_at hl 1 rfl) ?_
    refine yn_icmp_eq (a := 0) (b := 0) (tgt := 436) hx hb d_L_law_431 (by decide) (by omega) (by omega) (fun c431 => ?_) (fun c431 => ?_)
    · skip
      refine lv_iload hx hb d_L_law_436 (lv_at hl 1 rfl) ?_
      refine yn_if_ne (a := 0) (tgt := 453) hx hb d_L_law_438 (by decide) (by omega) (fun c438 => ?_) (fun c438 => ?_)
      · skip
        exact absurd c438 (by decide)
      · skip
        refine lv_aload_n hx hb d_L_law_441 rfl (lv_at hl 5 rfl) ?_
        refine lv_iconst (v := nI 0) hx hb d_L_law_442 (by decide) ?_
        refine va_lald hx hb hK hP w1a.length 3 (at_mW _ _ _) rfl (vp_in_nI (by decide) (by decide)) d_L_law_443 ?_
        rw [nI_clamp (show 0 < 2 ^ 31 by decide)]
        refine lv_iload hx hb d_L_law_444 (lv_at hl 0 rfl) ?_
        refine lv_i2l hx hb d_L_law_446 (v := y.toInt64) rfl ?_
        refine yq_eq (a := f1 0) (b := y.toInt64) (tgt := 453) hx hb d_L_law_447 d_L_law_448 (by decide) (fun c448 => ?_) (fun c448 => ?_)
        · skip
          refine lv_goto (tgt := 816) hx hb d_L_law_453 (by decide) ?_
          refine W.widen (k := 50 + i + 1) (n := 640000 + 6 * i + 6) (by omega) (by omega) ?_
          exact kn _ _ _ _ _ _ _ hR hP hD hS (lv_sub hl [2, 3, 4, 5, 6] rfl)
        · skip
          exact absurd c448 (fun z => z (by rw [hf1, exy]))
    · skip
      exact absurd c431 (by decide)
  · skip
    have hP : va_P (gD G) vwC ((w1a ++ [oC G ao f]) ++ w2) H := hP
    have hD : va_D A ((w1a ++ [oC G ao f]) ++ w2) := hD
    refine lv_istore (lv' := [(5, .int (xcN ["java/lang/IndexOutOfBoundsException", "java/lang/IllegalStateException", "java/lang/UnsupportedOperationException"] E)), (0, .ref b), (1, .ref bx), (2, .ref bm), (3, .ref ao), (4, .int (nI i))]) hx hb d_L_law_411 hl (by decide) rfl (fun ls hl => ?_)
    refine lv_aload_n hx hb d_L_law_413 rfl (lv_at hl 3 rfl) ?_
    refine lv_aload_n hx hb d_L_law_414 rfl (lv_at hl 1 rfl) ?_
    refine lv_iload hx hb d_L_law_415 (lv_at hl 5 rfl) ?_
    refine lv_iconst (v := nI 1) hx hb d_L_law_417 (by decide) ?_
    refine lv_iadd hx hb d_L_law_418 ?_
    refine y_eqi (nI_add _ _) ?_
    refine va_sld hx hb hX hbl hbA hS (vp_in_nI (show i + 1 < L by omega) (by omega)) d_L_law_419 ?_
    rw [nI_clamp (show i + 1 < 2 ^ 31 by omega)]
    refine y_callR (wa := w1a ++ [oC G ao f]) (wb := w2) (y_runV (As := [.int (xs (i + 1))]) (rest := []) hx hb hml hown hcM (gV (n := 1) hg tk_895 tk_896 tk_897 tk_7 tk_898 (by decide +kernel) ⟨Nat.le_of_ble_eq_true rfl, Nat.le_of_ble_eq_true rfl⟩) (va_recv hK hP (ci := 5) (q0 := (w1a ++ [oC G ao f]).length) rfl (at_rW _ _ hw2)) (y_preR hE hK hP hD hS hA) rfl rfl hl.1 rfl (lv_room (Nat.le_of_ble_eq_true rfl)) d_L_law_420 ⟨by show _ ≤ 601024; omega, by show _ ≤ 7293000; omega⟩) hP hD hS hA (fun _ _ h => h) (fun v w2a H locs hp2 hlw2 hP hD hS => ?_)
    obtain ⟨y, rfl⟩ := hpm v w2a hp2
    obtain ⟨k9, hk9, hR⟩ := hj2 E _ y _ hq1 hp2
    have hP : va_P (gD G) vwC ((w1a ++ [oC G ao f]) ++ w2a) H := hP
    have hD : va_D A ((w1a ++ [oC G ao f]) ++ w2a) := hD
    refine W.eq (g2 := F0 m 423 ls [.int y]) rfl ?_
    refine lv_istore (lv' := [(6, .int y), (5, .int (xcN ["java/lang/IndexOutOfBoundsException", "java/lang/IllegalStateException", "java/lang/UnsupportedOperationException"] E)), (0, .ref b), (1, .ref bx), (2, .ref bm), (3, .ref ao), (4, .int (nI i))]) hx hb d_L_law_423 hl (by decide) rfl (fun ls hl => ?_)
    refine lv_aload_n hx hb d_L_law_425 rfl (lv_at hl 4 rfl) ?_
    refine y_callR (wa := w1a ++ [oC G ao f]) (wb := w2a) (y_runV (As := []) (rest := []) hx hb hml hown (j_thrown l hR) (gV (n := 0) hg tk_756 tk_757 tk_758 tk_7 tk_759 (by decide +kernel) ⟨Nat.le_of_ble_eq_true rfl, Nat.le_of_ble_eq_true rfl⟩) (va_recv hK hP (ci := 5) (q0 := (w1a ++ [oC G ao f]).length) rfl (at_rW _ _ (rel_len hR).2.choose_spec)) (y_preR hE hK hP hD hS hA) rfl rfl hl.1 rfl (lv_room (Nat.le_of_ble_eq_true rfl)) d_L_law_426 ⟨by show _ ≤ 601024; omega, by show _ ≤ 7293000; omega⟩) hP hD hS hA (fun _ _ h => h) (fun v w9b H locs hp2 hlw2 hP hD hS => ?_)
    obtain ⟨rfl, hw9⟩ := hp2
    rw [hw9] at hP hD
    have hP : va_P (gD G) vwC ((w1a ++ [oC G ao f]) ++ w2a) H := hP
    have hD : va_D A ((w1a ++ [oC G ao f]) ++ w2a) := hD
    refine W.eq (g2 := F0 m 429 ls [.int (nI k9)]) rfl ?_
    refine lv_iload hx hb d_L_law_429 (lv_at hl 1 rfl) ?_
    refine lv_icmp_eq (tgt := 436) hx hb d_L_law_431 (by decide) (fun c431 => ?_) (fun c431 => ?_)
    · skip
      refine lv_iload hx hb d_L_law_436 (lv_at hl 1 rfl) ?_
      refine lv_if_ne (tgt := 453) hx hb d_L_law_438 (by decide) (fun c438 => ?_) (fun c438 => ?_)
      · skip
        refine lv_goto (tgt := 816) hx hb d_L_law_453 (by decide) ?_
        refine W.widen (k := 50 + i + 1) (n := 640000 + 6 * i + 6) (by omega) (by omega) ?_
        exact kn _ _ _ _ _ _ _ hR hP hD hS (lv_sub hl [2, 3, 4, 5, 6] rfl)
      · skip
        exact absurd c438 (xcN_ne (by decide))
    · skip
      exact absurd c431 (fun z => z hk9.symm)
set_option maxHeartbeats 4000000 in
set_option maxRecDepth 100000 in
theorem k_again {p : Program} {l : Launch} {e : Env} {s : State} {m : MethodId} {below : List Frame} {meth : Method} {c : Code} {Q : State → Prop} {G : gl} {A : Nat → Prop} {b L : Nat} {xs : Nat → Int32} {bx bm ao : Nat} (hlt : l.stackTraces = false) (C : LC G A p s m c b L xs) {i : Nat} (hi : i + 6 ≤ L) (hL : L ≤ 3075) {w1 w2 : va_W} {th : Nat} {f : Nat → Int64} {H : Heap} {locs : List Loc} {ls : Array Slot} (hR : RelW G bx bm th w1 w2) (hP : va_P (gD G) vwC ((w1 ++ [oC G ao f]) ++ w2) H) (hD : va_D A ((w1 ++ [oC G ao f]) ++ w2)) (hS : va_S A s.heap H locs) (hl : lv_has ls 7 [(0, .ref b), (1, .ref bx), (2, .ref bm), (3, .ref ao), (4, .int (nI i))]) (kn : ∀ (w1' w2' : va_W) (th' : Nat) (f' : Nat → Int64) (H' : Heap) (locs' : List Loc) (ls' : Array Slot), RelW G bx bm th' w1' w2' → va_P (gD G) vwC ((w1' ++ [oC G ao f']) ++ w2') H' → va_D A ((w1' ++ [oC G ao f']) ++ w2') → va_S A s.heap H' locs' → lv_has ls' 7 [(0, .ref b), (1, .ref bx), (2, .ref bm), (3, .ref ao), (4, .int (nI i))] → W p l e room_1 s m #[Value.ref b] below meth c H' locs' (50 + i + 1) (640000 + 6 * i + 6) Q (F0 m 816 ls' [])) : W p l e room_1 s m #[Value.ref b] below meth c H locs (50 + i) (640000 + 6 * i) Q (F0 m 456 ls []) := by
  obtain ⟨hx, hb, hml, hown, hg, hE, hK, hA, hN, hX, hbl, hbA⟩ := C
  obtain ⟨⟨fs1, hw0⟩, fs2, hw2⟩ := rel_len hR
  obtain ⟨post, px, postM, hcW, hcM, hpv, hpx, hpm, hj1, hj2⟩ := j_again hlt  hR
  refine lv_aload_n hx hb d_L_law_456 rfl (lv_at hl 1 rfl) ?_
  rw [List.append_assoc] at hP hD
  refine y_callL (wa := w1) (wb := [oC G ao f] ++ w2) (y_runV (As := []) (rest := []) hx hb hml hown hcW (gV (n := 0) hg tk_171 tk_172 tk_173 tk_1 tk_174 (by decide +kernel) ⟨Nat.le_of_ble_eq_true rfl, Nat.le_of_ble_eq_true rfl⟩) (va_recv hK hP (ci := 4) (q0 := 0) rfl (by rw [List.getElem?_append_left (List.getElem?_eq_some_iff.mp hw0).1]; exact hw0)) (y_preL hE hK hP hD hS hA) rfl rfl hl.1 rfl (lv_room (Nat.le_of_ble_eq_true rfl)) d_L_law_457 ⟨by show _ ≤ 601024; omega, by show _ ≤ 7293000; omega⟩) hP hD hS hA (fun E w q ce H locs hp => absurd (hpx E w hp) (by simp)) (fun v w1a H locs hq1 hlw hP hD hS => ?_)
  rw [← List.append_assoc] at hP hD
  obtain ⟨x, rfl⟩ := hpv v w1a hq1
  have hP : va_P (gD G) vwC ((w1a ++ [oC G ao f]) ++ w2) H := hP
  have hD : va_D A ((w1a ++ [oC G ao f]) ++ w2) := hD
  refine W.eq (g2 := F0 m 460 ls [.int x]) rfl ?_
  refine lv_aload_n hx hb d_L_law_460 rfl (lv_at hl 2 rfl) ?_
  refine y_callR (wa := w1a ++ [oC G ao f]) (wb := w2) (y_runV (As := []) (rest := [.int x]) hx hb hml hown hcM (gV (n := 0) hg tk_926 tk_927 tk_928 tk_7 tk_929 (by decide +kernel) ⟨Nat.le_of_ble_eq_true rfl, Nat.le_of_ble_eq_true rfl⟩) (va_recv hK hP (ci := 5) (q0 := (w1a ++ [oC G ao f]).length) rfl (at_rW _ _ hw2)) (y_preR hE hK hP hD hS hA) rfl rfl hl.1 rfl (lv_room (Nat.le_of_ble_eq_true rfl)) d_L_law_461 ⟨by show _ ≤ 601024; omega, by show _ ≤ 7293000; omega⟩) hP hD hS hA (fun _ _ h => h) (fun v w2a H locs hp2 hlw2 hP hD hS => ?_)
  obtain ⟨y, rfl⟩ := hpm v w2a hp2
  obtain ⟨exy, hR⟩ := hj1 x _ y _ hq1 hp2
  have hP : va_P (gD G) vwC ((w1a ++ [oC G ao f]) ++ w2a) H := hP
  have hD : va_D A ((w1a ++ [oC G ao f]) ++ w2a) := hD
  refine W.eq (g2 := F0 m 464 ls [.int y, .int x]) rfl ?_
  refine lv_icmp_eq (tgt := 816) hx hb d_L_law_464 (by decide) (fun c464 => ?_) (fun c464 => ?_)
  · skip
    refine W.widen (k := 50 + i + 1) (n := 640000 + 6 * i + 6) (by omega) (by omega) ?_
    exact kn _ _ _ _ _ _ _ hR hP hD hS (lv_sub hl [0, 1, 2, 3, 4] rfl)
  · skip
    exact absurd c464 (fun z => z exy)
set_option maxHeartbeats 4000000 in
set_option maxRecDepth 100000 in
theorem k_same {p : Program} {l : Launch} {e : Env} {s : State} {m : MethodId} {below : List Frame} {meth : Method} {c : Code} {Q : State → Prop} {G : gl} {A : Nat → Prop} {b L : Nat} {xs : Nat → Int32} {bx bm ao : Nat} (hlt : l.stackTraces = false) (C : LC G A p s m c b L xs) {i : Nat} (hi : i + 6 ≤ L) (hL : L ≤ 3075) {w1 w2 : va_W} {th : Nat} {f : Nat → Int64} {H : Heap} {locs : List Loc} {ls : Array Slot} (hR : RelW G bx bm th w1 w2) (hP : va_P (gD G) vwC ((w1 ++ [oC G ao f]) ++ w2) H) (hD : va_D A ((w1 ++ [oC G ao f]) ++ w2)) (hS : va_S A s.heap H locs) (hl : lv_has ls 7 [(0, .ref b), (1, .ref bx), (2, .ref bm), (3, .ref ao), (4, .int (nI i))]) (kn : ∀ (w1' w2' : va_W) (th' : Nat) (f' : Nat → Int64) (H' : Heap) (locs' : List Loc) (ls' : Array Slot), RelW G bx bm th' w1' w2' → va_P (gD G) vwC ((w1' ++ [oC G ao f']) ++ w2') H' → va_D A ((w1' ++ [oC G ao f']) ++ w2') → va_S A s.heap H' locs' → lv_has ls' 7 [(0, .ref b), (1, .ref bx), (2, .ref bm), (3, .ref ao), (4, .int (nI i))] → W p l e room_1 s m #[Value.ref b] below meth c H' locs' (50 + i + 1) (640000 + 6 * i + 6) Q (F0 m 816 ls' [])) : W p l e room_1 s m #[Value.ref b] below meth c H locs (50 + i) (640000 + 6 * i) Q (F0 m 469 ls []) := by
  obtain ⟨hx, hb, hml, hown, hg, hE, hK, hA, hN, hX, hbl, hbA⟩ := C
  obtain ⟨⟨fs1, hw0⟩, fs2, hw2⟩ := rel_len hR
  obtain ⟨post, px, postM, hcW, hcM, hpv, hpx, hpm, hj1, hj2⟩ := j_same hlt (xs (i + 1)) (xs (i + 2)) hR
  refine lv_aload_n hx hb d_L_law_469 rfl (lv_at hl 1 rfl) ?_
  refine lv_aload_n hx hb d_L_law_470 rfl (lv_at hl 0 rfl) ?_
  refine lv_iload hx hb d_L_law_471 (lv_at hl 4 rfl) ?_
  refine lv_iconst (v := nI 1) hx hb d_L_law_473 (by decide) ?_
  refine lv_iadd hx hb d_L_law_474 ?_
  refine y_eqi (nI_add _ _) ?_
  refine va_sld hx hb hX hbl hbA hS (vp_in_nI (show i + 1 < L by omega) (by omega)) d_L_law_475 ?_
  rw [nI_clamp (show i + 1 < 2 ^ 31 by omega)]
  refine lv_aload_n hx hb d_L_law_476 rfl (lv_at hl 0 rfl) ?_
  refine lv_iload hx hb d_L_law_477 (lv_at hl 4 rfl) ?_
  refine lv_iconst (v := nI 2) hx hb d_L_law_479 (by decide) ?_
  refine lv_iadd hx hb d_L_law_480 ?_
  refine y_eqi (nI_add _ _) ?_
  refine va_sld hx hb hX hbl hbA hS (vp_in_nI (show i + 2 < L by omega) (by omega)) d_L_law_481 ?_
  rw [nI_clamp (show i + 2 < 2 ^ 31 by omega)]
  refine lv_aload_n hx hb d_L_law_482 rfl (lv_at hl 3 rfl) ?_
  refine yh_call (wa := w1 ++ [oC G ao f]) (wb := w2) (vx_runSW (As := [.ref bx, .int (xs (i + 1)), .int (xs (i + 2)), .ref ao]) (rest := []) ⟨hx, hb, hml, hown, hg⟩ (c_L_same l G bx ao w1 _ hw0 f (xs (i + 1)) (xs (i + 2)) post px hcW hpv (fun E w h => by simpa using hpx E w h) H.size) (gSW (n := 4) hg tk_629 tk_630 tk_0 (gt_m tq_631 rfl) (by decide +kernel) ⟨Nat.le_of_ble_eq_true rfl, Nat.le_of_ble_eq_true rfl⟩) (yh_pre hN hE hK hP hD hS hA) rfl rfl hl.1 rfl (lv_room (Nat.le_of_ble_eq_true rfl)) d_L_law_483 ⟨by show _ ≤ 601024; omega, by show _ ≤ 7293000; omega⟩) hP hD hS hA (fun r w9 H locs hp hlw hP hD hS => ?_)
  rcases hp with ⟨x, w1a, f1, hq1, rfl, hf1, rfl⟩ | ⟨E, w1a, hq1, rfl, rfl⟩
  · skip
    have hP : va_P (gD G) vwC ((w1a ++ [oC G ao f1]) ++ w2) H := hP
    have hD : va_D A ((w1a ++ [oC G ao f1]) ++ w2) := hD
    refine lv_istore (lv' := [(5, .int (nI 0)), (0, .ref b), (1, .ref bx), (2, .ref bm), (3, .ref ao), (4, .int (nI i))]) hx hb d_L_law_486 hl (by decide) rfl (fun ls hl => ?_)
    refine lv_aload_n hx hb d_L_law_488 rfl (lv_at hl 3 rfl) ?_
    refine lv_aload_n hx hb d_L_law_489 rfl (lv_at hl 1 rfl) ?_
    refine lv_iload hx hb d_L_law_490 (lv_at hl 5 rfl) ?_
    refine lv_iconst (v := nI 1) hx hb d_L_law_492 (by decide) ?_
    refine lv_iadd hx hb d_L_law_493 ?_
    refine y_eqi (nI_add _ _) ?_
    refine va_sld hx hb hX hbl hbA hS (vp_in_nI (show i + 1 < L by omega) (by omega)) d_L_law_494 ?_
    rw [nI_clamp (show i + 1 < 2 ^ 31 by omega)]
    refine lv_aload_n hx hb d_L_law_495 rfl (lv_at hl 1 rfl) ?_
    refine lv_iload hx hb d_L_law_496 (lv_at hl 5 rfl) ?_
    refine lv_iconst (v := nI 2) hx hb d_L_law_498 (by decide) ?_
    refine lv_iadd hx hb d_L_law_499 ?_
    refine y_eqi (nI_add _ _) ?_
    refine va_sld hx hb hX hbl hbA hS (vp_in_nI (show i + 2 < L by omega) (by omega)) d_L_law_500 ?_
    rw [nI_clamp (show i + 2 < 2 ^ 31 by omega)]
    refine y_callR (wa := w1a ++ [oC G ao f1]) (wb := w2) (y_runV (As := [.int (xs (i + 1)), .int (xs (i + 2))]) (rest := []) hx hb hml hown hcM (gV (n := 2) hg tk_930 tk_931 tk_932 tk_7 tk_933 (by decide +kernel) ⟨Nat.le_of_ble_eq_true rfl, Nat.le_of_ble_eq_true rfl⟩) (va_recv hK hP (ci := 5) (q0 := (w1a ++ [oC G ao f1]).length) rfl (at_rW _ _ hw2)) (y_preR hE hK hP hD hS hA) rfl rfl hl.1 rfl (lv_room (Nat.le_of_ble_eq_true rfl)) d_L_law_501 ⟨by show _ ≤ 601024; omega, by show _ ≤ 7293000; omega⟩) hP hD hS hA (fun _ _ h => h) (fun v w2a H locs hp2 hlw2 hP hD hS => ?_)
    obtain ⟨y, rfl⟩ := hpm v w2a hp2
    obtain ⟨exy, hR⟩ := hj1 x _ y _ hq1 hp2
    have hP : va_P (gD G) vwC ((w1a ++ [oC G ao f1]) ++ w2a) H := hP
    have hD : va_D A ((w1a ++ [oC G ao f1]) ++ w2a) := hD
    refine W.eq (g2 := F0 m 504 ls [.int y]) rfl ?_
    refine lv_istore (lv' := [(6, .int y), (5, .int (nI 0)), (0, .ref b), (1, .ref bx), (2, .ref bm), (3, .ref ao), (4, .int (nI i))]) hx hb d_L_law_504 hl (by decide) rfl (fun ls hl => ?_)
    refine lv_aload_n hx hb d_L_law_506 rfl (lv_at hl 4 rfl) ?_
    refine y_callR (wa := w1a ++ [oC G ao f1]) (wb := w2a) (y_runV (As := []) (rest := []) hx hb hml hown (j_thrown l hR) (gV (n := 0) hg tk_756 tk_757 tk_758 tk_7 tk_759 (by decide +kernel) ⟨Nat.le_of_ble_eq_true rfl, Nat.le_of_ble_eq_true rfl⟩) (va_recv hK hP (ci := 5) (q0 := (w1a ++ [oC G ao f1]).length) rfl (at_rW _ _ (rel_len hR).2.choose_spec)) (y_preR hE hK hP hD hS hA) rfl rfl hl.1 rfl (lv_room (Nat.le_of_ble_eq_true rfl)) d_L_law_507 ⟨by show _ ≤ 601024; omega, by show _ ≤ 7293000; omega⟩) hP hD hS hA (fun _ _ h => h) (fun v w9b H locs hp2 hlw2 hP hD hS => ?_)
    obtain ⟨rfl, hw9⟩ := hp2
    rw [hw9] at hP hD
    have hP : va_P (gD G) vwC ((w1a ++ [oC G ao f1]) ++ w2a) H := hP
    have hD : va_D A ((w1a ++ [oC G ao f1]) ++ w2a) := hD
    refine W.eq (g2 := F0 m 510 ls [.int (nI 0)]) rfl ?_
    refine lv_iload hx hb d_L_law_510 (lv_at hl 1 rfl) ?_
    refine yn_icmp_eq (a := 0) (b := 0) (tgt := 517) hx hb d_L_law_512 (by decide) (by omega) (by omega) (fun c512 => ?_) (fun c512 => ?_)
    · skip
      refine lv_iload hx hb d_L_law_517 (lv_at hl 1 rfl) ?_
      refine yn_if_ne (a := 0) (tgt := 541) hx hb d_L_law_519 (by decide) (by omega) (fun c519 => ?_) (fun c519 => ?_)
      · skip
        exact absurd c519 (by decide)
      · skip
        refine lv_aload_n hx hb d_L_law_522 rfl (lv_at hl 5 rfl) ?_
        refine lv_iconst (v := nI 0) hx hb d_L_law_523 (by decide) ?_
        refine va_lald hx hb hK hP w1a.length 3 (at_mW _ _ _) rfl (vp_in_nI (by decide) (by decide)) d_L_law_524 ?_
        rw [nI_clamp (show 0 < 2 ^ 31 by decide)]
        refine lv_iload hx hb d_L_law_525 (lv_at hl 0 rfl) ?_
        refine lv_if_eq (tgt := 534) hx hb d_L_law_527 (by decide) (fun c527 => ?_) (fun c527 => ?_)
        · skip
          refine lv_lconst (v := lN 0) hx hb d_L_law_534 (by decide) ?_
          refine yq_eq (a := f1 0) (b := lN 0) (tgt := 541) hx hb d_L_law_535 d_L_law_536 (by decide) (fun c536 => ?_) (fun c536 => ?_)
          · skip
            refine lv_goto (tgt := 816) hx hb d_L_law_541 (by decide) ?_
            refine W.widen (k := 50 + i + 1) (n := 640000 + 6 * i + 6) (by omega) (by omega) ?_
            exact kn _ _ _ _ _ _ _ hR hP hD hS (lv_sub hl [2, 3, 4, 5, 6] rfl)
          · skip
            exact absurd c536 (fun z => z (by rw [hf1, exy]; first | rw [if_pos c527] | rw [if_neg c527]))
        · skip
          refine lv_lconst (v := lN 1) hx hb d_L_law_530 (by decide) ?_
          refine lv_goto (tgt := 535) hx hb d_L_law_531 (by decide) ?_
          refine yq_eq (a := f1 0) (b := lN 1) (tgt := 541) hx hb d_L_law_535 d_L_law_536 (by decide) (fun c536 => ?_) (fun c536 => ?_)
          · skip
            refine lv_goto (tgt := 816) hx hb d_L_law_541 (by decide) ?_
            refine W.widen (k := 50 + i + 1) (n := 640000 + 6 * i + 6) (by omega) (by omega) ?_
            exact kn _ _ _ _ _ _ _ hR hP hD hS (lv_sub hl [2, 3, 4, 5, 6] rfl)
          · skip
            exact absurd c536 (fun z => z (by rw [hf1, exy]; first | rw [if_pos c527] | rw [if_neg c527]))
    · skip
      exact absurd c512 (by decide)
  · skip
    have hP : va_P (gD G) vwC ((w1a ++ [oC G ao f]) ++ w2) H := hP
    have hD : va_D A ((w1a ++ [oC G ao f]) ++ w2) := hD
    refine lv_istore (lv' := [(5, .int (xcN ["java/lang/IndexOutOfBoundsException"] E)), (0, .ref b), (1, .ref bx), (2, .ref bm), (3, .ref ao), (4, .int (nI i))]) hx hb d_L_law_486 hl (by decide) rfl (fun ls hl => ?_)
    refine lv_aload_n hx hb d_L_law_488 rfl (lv_at hl 3 rfl) ?_
    refine lv_aload_n hx hb d_L_law_489 rfl (lv_at hl 1 rfl) ?_
    refine lv_iload hx hb d_L_law_490 (lv_at hl 5 rfl) ?_
    refine lv_iconst (v := nI 1) hx hb d_L_law_492 (by decide) ?_
    refine lv_iadd hx hb d_L_law_493 ?_
    refine y_eqi (nI_add _ _) ?_
    refine va_sld hx hb hX hbl hbA hS (vp_in_nI (show i + 1 < L by omega) (by omega)) d_L_law_494 ?_
    rw [nI_clamp (show i + 1 < 2 ^ 31 by omega)]
    refine lv_aload_n hx hb d_L_law_495 rfl (lv_at hl 1 rfl) ?_
    refine lv_iload hx hb d_L_law_496 (lv_at hl 5 rfl) ?_
    refine lv_iconst (v := nI 2) hx hb d_L_law_498 (by decide) ?_
    refine lv_iadd hx hb d_L_law_499 ?_
    refine y_eqi (nI_add _ _) ?_
    refine va_sld hx hb hX hbl hbA hS (vp_in_nI (show i + 2 < L by omega) (by omega)) d_L_law_500 ?_
    rw [nI_clamp (show i + 2 < 2 ^ 31 by omega)]
    refine y_callR (wa := w1a ++ [oC G ao f]) (wb := w2) (y_runV (As := [.int (xs (i + 1)), .int (xs (i + 2))]) (rest := []) hx hb hml hown hcM (gV (n := 2) hg tk_930 tk_931 tk_932 tk_7 tk_933 (by decide +kernel) ⟨Nat.le_of_ble_eq_true rfl, Nat.le_of_ble_eq_true rfl⟩) (va_recv hK hP (ci := 5) (q0 := (w1a ++ [oC G ao f]).length) rfl (at_rW _ _ hw2)) (y_preR hE hK hP hD hS hA) rfl rfl hl.1 rfl (lv_room (Nat.le_of_ble_eq_true rfl)) d_L_law_501 ⟨by show _ ≤ 601024; omega, by show _ ≤ 7293000; omega⟩) hP hD hS hA (fun _ _ h => h) (fun v w2a H locs hp2 hlw2 hP hD hS => ?_)
    obtain ⟨y, rfl⟩ := hpm v w2a hp2
    obtain ⟨k9, hk9, hR⟩ := hj2 E _ y _ hq1 hp2
    have hP : va_P (gD G) vwC ((w1a ++ [oC G ao f]) ++ w2a) H := hP
    have hD : va_D A ((w1a ++ [oC G ao f]) ++ w2a) := hD
    refine W.eq (g2 := F0 m 504 ls [.int y]) rfl ?_
    refine lv_istore (lv' := [(6, .int y), (5, .int (xcN ["java/lang/IndexOutOfBoundsException"] E)), (0, .ref b), (1, .ref bx), (2, .ref bm), (3, .ref ao), (4, .int (nI i))]) hx hb d_L_law_504 hl (by decide) rfl (fun ls hl => ?_)
    refine lv_aload_n hx hb d_L_law_506 rfl (lv_at hl 4 rfl) ?_
    refine y_callR (wa := w1a ++ [oC G ao f]) (wb := w2a) (y_runV (As := []) (rest := []) hx hb hml hown (j_thrown l hR) (gV (n := 0) hg tk_756 tk_757 tk_758 tk_7 tk_759 (by decide +kernel) ⟨Nat.le_of_ble_eq_true rfl, Nat.le_of_ble_eq_true rfl⟩) (va_recv hK hP (ci := 5) (q0 := (w1a ++ [oC G ao f]).length) rfl (at_rW _ _ (rel_len hR).2.choose_spec)) (y_preR hE hK hP hD hS hA) rfl rfl hl.1 rfl (lv_room (Nat.le_of_ble_eq_true rfl)) d_L_law_507 ⟨by show _ ≤ 601024; omega, by show _ ≤ 7293000; omega⟩) hP hD hS hA (fun _ _ h => h) (fun v w9b H locs hp2 hlw2 hP hD hS => ?_)
    obtain ⟨rfl, hw9⟩ := hp2
    rw [hw9] at hP hD
    have hP : va_P (gD G) vwC ((w1a ++ [oC G ao f]) ++ w2a) H := hP
    have hD : va_D A ((w1a ++ [oC G ao f]) ++ w2a) := hD
    refine W.eq (g2 := F0 m 510 ls [.int (nI k9)]) rfl ?_
    refine lv_iload hx hb d_L_law_510 (lv_at hl 1 rfl) ?_
    refine lv_icmp_eq (tgt := 517) hx hb d_L_law_512 (by decide) (fun c512 => ?_) (fun c512 => ?_)
    · skip
      refine lv_iload hx hb d_L_law_517 (lv_at hl 1 rfl) ?_
      refine lv_if_ne (tgt := 541) hx hb d_L_law_519 (by decide) (fun c519 => ?_) (fun c519 => ?_)
      · skip
        refine lv_goto (tgt := 816) hx hb d_L_law_541 (by decide) ?_
        refine W.widen (k := 50 + i + 1) (n := 640000 + 6 * i + 6) (by omega) (by omega) ?_
        exact kn _ _ _ _ _ _ _ hR hP hD hS (lv_sub hl [2, 3, 4, 5, 6] rfl)
      · skip
        exact absurd c519 (xcN_ne (by decide))
    · skip
      exact absurd c512 (fun z => z hk9.symm)
set_option maxHeartbeats 4000000 in
set_option maxRecDepth 100000 in
theorem k_plan {p : Program} {l : Launch} {e : Env} {s : State} {m : MethodId} {below : List Frame} {meth : Method} {c : Code} {Q : State → Prop} {G : gl} {A : Nat → Prop} {b L : Nat} {xs : Nat → Int32} {bx bm ao : Nat} (hlt : l.stackTraces = false) (C : LC G A p s m c b L xs) {i : Nat} (hi : i + 6 ≤ L) (hL : L ≤ 3075) {w1 w2 : va_W} {th : Nat} {f : Nat → Int64} {H : Heap} {locs : List Loc} {ls : Array Slot} (hR : RelW G bx bm th w1 w2) (hP : va_P (gD G) vwC ((w1 ++ [oC G ao f]) ++ w2) H) (hD : va_D A ((w1 ++ [oC G ao f]) ++ w2)) (hS : va_S A s.heap H locs) (hl : lv_has ls 7 [(0, .ref b), (1, .ref bx), (2, .ref bm), (3, .ref ao), (4, .int (nI i))]) (kn : ∀ (w1' w2' : va_W) (th' : Nat) (f' : Nat → Int64) (H' : Heap) (locs' : List Loc) (ls' : Array Slot), RelW G bx bm th' w1' w2' → va_P (gD G) vwC ((w1' ++ [oC G ao f']) ++ w2') H' → va_D A ((w1' ++ [oC G ao f']) ++ w2') → va_S A s.heap H' locs' → lv_has ls' 7 [(0, .ref b), (1, .ref bx), (2, .ref bm), (3, .ref ao), (4, .int (nI i))] → W p l e room_1 s m #[Value.ref b] below meth c H' locs' (50 + i + 1) (640000 + 6 * i + 6) Q (F0 m 816 ls' [])) : W p l e room_1 s m #[Value.ref b] below meth c H locs (50 + i) (640000 + 6 * i) Q (F0 m 544 ls []) := by
  obtain ⟨hx, hb, hml, hown, hg, hE, hK, hA, hN, hX, hbl, hbA⟩ := C
  obtain ⟨⟨fs1, hw0⟩, fs2, hw2⟩ := rel_len hR
  obtain ⟨post, px, postM, hcW, hcM, hpv, hpx, hpm, hj1, hj2⟩ := j_plan hlt (xs (i + 1)) (xs (i + 2)) hR
  refine lv_aload_n hx hb d_L_law_544 rfl (lv_at hl 1 rfl) ?_
  refine lv_aload_n hx hb d_L_law_545 rfl (lv_at hl 0 rfl) ?_
  refine lv_iload hx hb d_L_law_546 (lv_at hl 4 rfl) ?_
  refine lv_iconst (v := nI 1) hx hb d_L_law_548 (by decide) ?_
  refine lv_iadd hx hb d_L_law_549 ?_
  refine y_eqi (nI_add _ _) ?_
  refine va_sld hx hb hX hbl hbA hS (vp_in_nI (show i + 1 < L by omega) (by omega)) d_L_law_550 ?_
  rw [nI_clamp (show i + 1 < 2 ^ 31 by omega)]
  refine lv_aload_n hx hb d_L_law_551 rfl (lv_at hl 0 rfl) ?_
  refine lv_iload hx hb d_L_law_552 (lv_at hl 4 rfl) ?_
  refine lv_iconst (v := nI 2) hx hb d_L_law_554 (by decide) ?_
  refine lv_iadd hx hb d_L_law_555 ?_
  refine y_eqi (nI_add _ _) ?_
  refine va_sld hx hb hX hbl hbA hS (vp_in_nI (show i + 2 < L by omega) (by omega)) d_L_law_556 ?_
  rw [nI_clamp (show i + 2 < 2 ^ 31 by omega)]
  refine lv_aload_n hx hb d_L_law_557 rfl (lv_at hl 3 rfl) ?_
  refine yh_call (wa := w1 ++ [oC G ao f]) (wb := w2) (vx_runSW (As := [.ref bx, .int (xs (i + 1)), .int (xs (i + 2)), .ref ao]) (rest := []) ⟨hx, hb, hml, hown, hg⟩ (c_L_plan l G bx ao w1 _ hw0 f (xs (i + 1)) (xs (i + 2)) post px hcW hpv (fun E w h => by simpa using hpx E w h) H.size) (gSW (n := 4) hg tk_640 tk_641 tk_0 (gt_m tq_642 rfl) (by decide +kernel) ⟨Nat.le_of_ble_eq_true rfl, Nat.le_of_ble_eq_true rfl⟩) (yh_pre hN hE hK hP hD hS hA) rfl rfl hl.1 rfl (lv_room (Nat.le_of_ble_eq_true rfl)) d_L_law_558 ⟨by show _ ≤ 601024; omega, by show _ ≤ 7293000; omega⟩) hP hD hS hA (fun r w9 H locs hp hlw hP hD hS => ?_)
  rcases hp with ⟨x, w1a, f1, hq1, rfl, hf1, rfl⟩ | ⟨E, w1a, hq1, rfl, rfl⟩
  · skip
    have hP : va_P (gD G) vwC ((w1a ++ [oC G ao f1]) ++ w2) H := hP
    have hD : va_D A ((w1a ++ [oC G ao f1]) ++ w2) := hD
    refine lv_istore (lv' := [(5, .int (nI 0)), (0, .ref b), (1, .ref bx), (2, .ref bm), (3, .ref ao), (4, .int (nI i))]) hx hb d_L_law_561 hl (by decide) rfl (fun ls hl => ?_)
    refine lv_aload_n hx hb d_L_law_563 rfl (lv_at hl 3 rfl) ?_
    refine lv_aload_n hx hb d_L_law_564 rfl (lv_at hl 1 rfl) ?_
    refine lv_iload hx hb d_L_law_565 (lv_at hl 5 rfl) ?_
    refine lv_iconst (v := nI 1) hx hb d_L_law_567 (by decide) ?_
    refine lv_iadd hx hb d_L_law_568 ?_
    refine y_eqi (nI_add _ _) ?_
    refine va_sld hx hb hX hbl hbA hS (vp_in_nI (show i + 1 < L by omega) (by omega)) d_L_law_569 ?_
    rw [nI_clamp (show i + 1 < 2 ^ 31 by omega)]
    refine lv_aload_n hx hb d_L_law_570 rfl (lv_at hl 1 rfl) ?_
    refine lv_iload hx hb d_L_law_571 (lv_at hl 5 rfl) ?_
    refine lv_iconst (v := nI 2) hx hb d_L_law_573 (by decide) ?_
    refine lv_iadd hx hb d_L_law_574 ?_
    refine y_eqi (nI_add _ _) ?_
    refine va_sld hx hb hX hbl hbA hS (vp_in_nI (show i + 2 < L by omega) (by omega)) d_L_law_575 ?_
    rw [nI_clamp (show i + 2 < 2 ^ 31 by omega)]
    refine y_callR (wa := w1a ++ [oC G ao f1]) (wb := w2) (y_runV (As := [.int (xs (i + 1)), .int (xs (i + 2))]) (rest := []) hx hb hml hown hcM (gV (n := 2) hg tk_934 tk_935 tk_936 tk_7 tk_937 (by decide +kernel) ⟨Nat.le_of_ble_eq_true rfl, Nat.le_of_ble_eq_true rfl⟩) (va_recv hK hP (ci := 5) (q0 := (w1a ++ [oC G ao f1]).length) rfl (at_rW _ _ hw2)) (y_preR hE hK hP hD hS hA) rfl rfl hl.1 rfl (lv_room (Nat.le_of_ble_eq_true rfl)) d_L_law_576 ⟨by show _ ≤ 601024; omega, by show _ ≤ 7293000; omega⟩) hP hD hS hA (fun _ _ h => h) (fun v w2a H locs hp2 hlw2 hP hD hS => ?_)
    obtain ⟨y, rfl⟩ := hpm v w2a hp2
    obtain ⟨exy, hR⟩ := hj1 x _ y _ hq1 hp2
    have hP : va_P (gD G) vwC ((w1a ++ [oC G ao f1]) ++ w2a) H := hP
    have hD : va_D A ((w1a ++ [oC G ao f1]) ++ w2a) := hD
    refine W.eq (g2 := F0 m 579 ls [.int y]) rfl ?_
    refine lv_istore (lv' := [(6, .int y), (5, .int (nI 0)), (0, .ref b), (1, .ref bx), (2, .ref bm), (3, .ref ao), (4, .int (nI i))]) hx hb d_L_law_579 hl (by decide) rfl (fun ls hl => ?_)
    refine lv_aload_n hx hb d_L_law_581 rfl (lv_at hl 4 rfl) ?_
    refine y_callR (wa := w1a ++ [oC G ao f1]) (wb := w2a) (y_runV (As := []) (rest := []) hx hb hml hown (j_thrown l hR) (gV (n := 0) hg tk_756 tk_757 tk_758 tk_7 tk_759 (by decide +kernel) ⟨Nat.le_of_ble_eq_true rfl, Nat.le_of_ble_eq_true rfl⟩) (va_recv hK hP (ci := 5) (q0 := (w1a ++ [oC G ao f1]).length) rfl (at_rW _ _ (rel_len hR).2.choose_spec)) (y_preR hE hK hP hD hS hA) rfl rfl hl.1 rfl (lv_room (Nat.le_of_ble_eq_true rfl)) d_L_law_582 ⟨by show _ ≤ 601024; omega, by show _ ≤ 7293000; omega⟩) hP hD hS hA (fun _ _ h => h) (fun v w9b H locs hp2 hlw2 hP hD hS => ?_)
    obtain ⟨rfl, hw9⟩ := hp2
    rw [hw9] at hP hD
    have hP : va_P (gD G) vwC ((w1a ++ [oC G ao f1]) ++ w2a) H := hP
    have hD : va_D A ((w1a ++ [oC G ao f1]) ++ w2a) := hD
    refine W.eq (g2 := F0 m 585 ls [.int (nI 0)]) rfl ?_
    refine lv_iload hx hb d_L_law_585 (lv_at hl 1 rfl) ?_
    refine yn_icmp_eq (a := 0) (b := 0) (tgt := 592) hx hb d_L_law_587 (by decide) (by omega) (by omega) (fun c587 => ?_) (fun c587 => ?_)
    · skip
      refine lv_iload hx hb d_L_law_592 (lv_at hl 1 rfl) ?_
      refine yn_if_ne (a := 0) (tgt := 609) hx hb d_L_law_594 (by decide) (by omega) (fun c594 => ?_) (fun c594 => ?_)
      · skip
        exact absurd c594 (by decide)
      · skip
        refine lv_aload_n hx hb d_L_law_597 rfl (lv_at hl 5 rfl) ?_
        refine lv_iconst (v := nI 0) hx hb d_L_law_598 (by decide) ?_
        refine va_lald hx hb hK hP w1a.length 3 (at_mW _ _ _) rfl (vp_in_nI (by decide) (by decide)) d_L_law_599 ?_
        rw [nI_clamp (show 0 < 2 ^ 31 by decide)]
        refine lv_iload hx hb d_L_law_600 (lv_at hl 0 rfl) ?_
        refine lv_i2l hx hb d_L_law_602 (v := y.toInt64) rfl ?_
        refine yq_eq (a := f1 0) (b := y.toInt64) (tgt := 609) hx hb d_L_law_603 d_L_law_604 (by decide) (fun c604 => ?_) (fun c604 => ?_)
        · skip
          refine lv_goto (tgt := 816) hx hb d_L_law_609 (by decide) ?_
          refine W.widen (k := 50 + i + 1) (n := 640000 + 6 * i + 6) (by omega) (by omega) ?_
          exact kn _ _ _ _ _ _ _ hR hP hD hS (lv_sub hl [2, 3, 4, 5, 6] rfl)
        · skip
          exact absurd c604 (fun z => z (by rw [hf1, exy]))
    · skip
      exact absurd c587 (by decide)
  · skip
    have hP : va_P (gD G) vwC ((w1a ++ [oC G ao f]) ++ w2) H := hP
    have hD : va_D A ((w1a ++ [oC G ao f]) ++ w2) := hD
    refine lv_istore (lv' := [(5, .int (xcN ["java/lang/IndexOutOfBoundsException"] E)), (0, .ref b), (1, .ref bx), (2, .ref bm), (3, .ref ao), (4, .int (nI i))]) hx hb d_L_law_561 hl (by decide) rfl (fun ls hl => ?_)
    refine lv_aload_n hx hb d_L_law_563 rfl (lv_at hl 3 rfl) ?_
    refine lv_aload_n hx hb d_L_law_564 rfl (lv_at hl 1 rfl) ?_
    refine lv_iload hx hb d_L_law_565 (lv_at hl 5 rfl) ?_
    refine lv_iconst (v := nI 1) hx hb d_L_law_567 (by decide) ?_
    refine lv_iadd hx hb d_L_law_568 ?_
    refine y_eqi (nI_add _ _) ?_
    refine va_sld hx hb hX hbl hbA hS (vp_in_nI (show i + 1 < L by omega) (by omega)) d_L_law_569 ?_
    rw [nI_clamp (show i + 1 < 2 ^ 31 by omega)]
    refine lv_aload_n hx hb d_L_law_570 rfl (lv_at hl 1 rfl) ?_
    refine lv_iload hx hb d_L_law_571 (lv_at hl 5 rfl) ?_
    refine lv_iconst (v := nI 2) hx hb d_L_law_573 (by decide) ?_
    refine lv_iadd hx hb d_L_law_574 ?_
    refine y_eqi (nI_add _ _) ?_
    refine va_sld hx hb hX hbl hbA hS (vp_in_nI (show i + 2 < L by omega) (by omega)) d_L_law_575 ?_
    rw [nI_clamp (show i + 2 < 2 ^ 31 by omega)]
    refine y_callR (wa := w1a ++ [oC G ao f]) (wb := w2) (y_runV (As := [.int (xs (i + 1)), .int (xs (i + 2))]) (rest := []) hx hb hml hown hcM (gV (n := 2) hg tk_934 tk_935 tk_936 tk_7 tk_937 (by decide +kernel) ⟨Nat.le_of_ble_eq_true rfl, Nat.le_of_ble_eq_true rfl⟩) (va_recv hK hP (ci := 5) (q0 := (w1a ++ [oC G ao f]).length) rfl (at_rW _ _ hw2)) (y_preR hE hK hP hD hS hA) rfl rfl hl.1 rfl (lv_room (Nat.le_of_ble_eq_true rfl)) d_L_law_576 ⟨by show _ ≤ 601024; omega, by show _ ≤ 7293000; omega⟩) hP hD hS hA (fun _ _ h => h) (fun v w2a H locs hp2 hlw2 hP hD hS => ?_)
    obtain ⟨y, rfl⟩ := hpm v w2a hp2
    obtain ⟨k9, hk9, hR⟩ := hj2 E _ y _ hq1 hp2
    have hP : va_P (gD G) vwC ((w1a ++ [oC G ao f]) ++ w2a) H := hP
    have hD : va_D A ((w1a ++ [oC G ao f]) ++ w2a) := hD
    refine W.eq (g2 := F0 m 579 ls [.int y]) rfl ?_
    refine lv_istore (lv' := [(6, .int y), (5, .int (xcN ["java/lang/IndexOutOfBoundsException"] E)), (0, .ref b), (1, .ref bx), (2, .ref bm), (3, .ref ao), (4, .int (nI i))]) hx hb d_L_law_579 hl (by decide) rfl (fun ls hl => ?_)
    refine lv_aload_n hx hb d_L_law_581 rfl (lv_at hl 4 rfl) ?_
    refine y_callR (wa := w1a ++ [oC G ao f]) (wb := w2a) (y_runV (As := []) (rest := []) hx hb hml hown (j_thrown l hR) (gV (n := 0) hg tk_756 tk_757 tk_758 tk_7 tk_759 (by decide +kernel) ⟨Nat.le_of_ble_eq_true rfl, Nat.le_of_ble_eq_true rfl⟩) (va_recv hK hP (ci := 5) (q0 := (w1a ++ [oC G ao f]).length) rfl (at_rW _ _ (rel_len hR).2.choose_spec)) (y_preR hE hK hP hD hS hA) rfl rfl hl.1 rfl (lv_room (Nat.le_of_ble_eq_true rfl)) d_L_law_582 ⟨by show _ ≤ 601024; omega, by show _ ≤ 7293000; omega⟩) hP hD hS hA (fun _ _ h => h) (fun v w9b H locs hp2 hlw2 hP hD hS => ?_)
    obtain ⟨rfl, hw9⟩ := hp2
    rw [hw9] at hP hD
    have hP : va_P (gD G) vwC ((w1a ++ [oC G ao f]) ++ w2a) H := hP
    have hD : va_D A ((w1a ++ [oC G ao f]) ++ w2a) := hD
    refine W.eq (g2 := F0 m 585 ls [.int (nI k9)]) rfl ?_
    refine lv_iload hx hb d_L_law_585 (lv_at hl 1 rfl) ?_
    refine lv_icmp_eq (tgt := 592) hx hb d_L_law_587 (by decide) (fun c587 => ?_) (fun c587 => ?_)
    · skip
      refine lv_iload hx hb d_L_law_592 (lv_at hl 1 rfl) ?_
      refine lv_if_ne (tgt := 609) hx hb d_L_law_594 (by decide) (fun c594 => ?_) (fun c594 => ?_)
      · skip
        refine lv_goto (tgt := 816) hx hb d_L_law_609 (by decide) ?_
        refine W.widen (k := 50 + i + 1) (n := 640000 + 6 * i + 6) (by omega) (by omega) ?_
        exact kn _ _ _ _ _ _ _ hR hP hD hS (lv_sub hl [2, 3, 4, 5, 6] rfl)
      · skip
        exact absurd c594 (xcN_ne (by decide))
    · skip
      exact absurd c587 (fun z => z hk9.symm)
set_option maxHeartbeats 4000000 in
set_option maxRecDepth 100000 in
theorem k_ordinate {p : Program} {l : Launch} {e : Env} {s : State} {m : MethodId} {below : List Frame} {meth : Method} {c : Code} {Q : State → Prop} {G : gl} {A : Nat → Prop} {b L : Nat} {xs : Nat → Int32} {bx bm ao : Nat} (hlt : l.stackTraces = false) (C : LC G A p s m c b L xs) {i : Nat} (hi : i + 6 ≤ L) (hL : L ≤ 3075) {w1 w2 : va_W} {th : Nat} {f : Nat → Int64} {H : Heap} {locs : List Loc} {ls : Array Slot} (hR : RelW G bx bm th w1 w2) (hP : va_P (gD G) vwC ((w1 ++ [oC G ao f]) ++ w2) H) (hD : va_D A ((w1 ++ [oC G ao f]) ++ w2)) (hS : va_S A s.heap H locs) (hl : lv_has ls 7 [(0, .ref b), (1, .ref bx), (2, .ref bm), (3, .ref ao), (4, .int (nI i))]) (kn : ∀ (w1' w2' : va_W) (th' : Nat) (f' : Nat → Int64) (H' : Heap) (locs' : List Loc) (ls' : Array Slot), RelW G bx bm th' w1' w2' → va_P (gD G) vwC ((w1' ++ [oC G ao f']) ++ w2') H' → va_D A ((w1' ++ [oC G ao f']) ++ w2') → va_S A s.heap H' locs' → lv_has ls' 7 [(0, .ref b), (1, .ref bx), (2, .ref bm), (3, .ref ao), (4, .int (nI i))] → W p l e room_1 s m #[Value.ref b] below meth c H' locs' (50 + i + 1) (640000 + 6 * i + 6) Q (F0 m 816 ls' [])) : W p l e room_1 s m #[Value.ref b] below meth c H locs (50 + i) (640000 + 6 * i) Q (F0 m 612 ls []) := by
  obtain ⟨hx, hb, hml, hown, hg, hE, hK, hA, hN, hX, hbl, hbA⟩ := C
  obtain ⟨⟨fs1, hw0⟩, fs2, hw2⟩ := rel_len hR
  obtain ⟨post, px, postM, hcW, hcM, hpv, hpx, hpm, hj1, hj2⟩ := j_ordinate hlt (xs (i + 1)) (xs (i + 2)) (xs (i + 3)) hR
  refine lv_aload_n hx hb d_L_law_612 rfl (lv_at hl 1 rfl) ?_
  refine lv_aload_n hx hb d_L_law_613 rfl (lv_at hl 0 rfl) ?_
  refine lv_iload hx hb d_L_law_614 (lv_at hl 4 rfl) ?_
  refine lv_iconst (v := nI 1) hx hb d_L_law_616 (by decide) ?_
  refine lv_iadd hx hb d_L_law_617 ?_
  refine y_eqi (nI_add _ _) ?_
  refine va_sld hx hb hX hbl hbA hS (vp_in_nI (show i + 1 < L by omega) (by omega)) d_L_law_618 ?_
  rw [nI_clamp (show i + 1 < 2 ^ 31 by omega)]
  refine lv_aload_n hx hb d_L_law_619 rfl (lv_at hl 0 rfl) ?_
  refine lv_iload hx hb d_L_law_620 (lv_at hl 4 rfl) ?_
  refine lv_iconst (v := nI 2) hx hb d_L_law_622 (by decide) ?_
  refine lv_iadd hx hb d_L_law_623 ?_
  refine y_eqi (nI_add _ _) ?_
  refine va_sld hx hb hX hbl hbA hS (vp_in_nI (show i + 2 < L by omega) (by omega)) d_L_law_624 ?_
  rw [nI_clamp (show i + 2 < 2 ^ 31 by omega)]
  refine lv_aload_n hx hb d_L_law_625 rfl (lv_at hl 0 rfl) ?_
  refine lv_iload hx hb d_L_law_626 (lv_at hl 4 rfl) ?_
  refine lv_iconst (v := nI 3) hx hb d_L_law_628 (by decide) ?_
  refine lv_iadd hx hb d_L_law_629 ?_
  refine y_eqi (nI_add _ _) ?_
  refine va_sld hx hb hX hbl hbA hS (vp_in_nI (show i + 3 < L by omega) (by omega)) d_L_law_630 ?_
  rw [nI_clamp (show i + 3 < 2 ^ 31 by omega)]
  refine lv_aload_n hx hb d_L_law_631 rfl (lv_at hl 3 rfl) ?_
  refine yh_call (wa := w1 ++ [oC G ao f]) (wb := w2) (vx_runSW (As := [.ref bx, .int (xs (i + 1)), .int (xs (i + 2)), .int (xs (i + 3)), .ref ao]) (rest := []) ⟨hx, hb, hml, hown, hg⟩ (c_L_ordinate l G bx ao w1 _ hw0 f (xs (i + 1)) (xs (i + 2)) (xs (i + 3)) post px hcW hpv (fun E w h => by simpa using hpx E w h) H.size) (gSW (n := 5) hg tk_648 tk_649 tk_0 (gt_m tq_650 rfl) (by decide +kernel) ⟨Nat.le_of_ble_eq_true rfl, Nat.le_of_ble_eq_true rfl⟩) (yh_pre hN hE hK hP hD hS hA) rfl rfl hl.1 rfl (lv_room (Nat.le_of_ble_eq_true rfl)) d_L_law_632 ⟨by show _ ≤ 601024; omega, by show _ ≤ 7293000; omega⟩) hP hD hS hA (fun r w9 H locs hp hlw hP hD hS => ?_)
  rcases hp with ⟨x, w1a, f1, hq1, rfl, hf1, rfl⟩ | ⟨E, w1a, hq1, rfl, rfl⟩
  · skip
    have hP : va_P (gD G) vwC ((w1a ++ [oC G ao f1]) ++ w2) H := hP
    have hD : va_D A ((w1a ++ [oC G ao f1]) ++ w2) := hD
    refine lv_istore (lv' := [(5, .int (nI 0)), (0, .ref b), (1, .ref bx), (2, .ref bm), (3, .ref ao), (4, .int (nI i))]) hx hb d_L_law_635 hl (by decide) rfl (fun ls hl => ?_)
    refine lv_aload_n hx hb d_L_law_637 rfl (lv_at hl 3 rfl) ?_
    refine lv_aload_n hx hb d_L_law_638 rfl (lv_at hl 1 rfl) ?_
    refine lv_iload hx hb d_L_law_639 (lv_at hl 5 rfl) ?_
    refine lv_iconst (v := nI 1) hx hb d_L_law_641 (by decide) ?_
    refine lv_iadd hx hb d_L_law_642 ?_
    refine y_eqi (nI_add _ _) ?_
    refine va_sld hx hb hX hbl hbA hS (vp_in_nI (show i + 1 < L by omega) (by omega)) d_L_law_643 ?_
    rw [nI_clamp (show i + 1 < 2 ^ 31 by omega)]
    refine lv_aload_n hx hb d_L_law_644 rfl (lv_at hl 1 rfl) ?_
    refine lv_iload hx hb d_L_law_645 (lv_at hl 5 rfl) ?_
    refine lv_iconst (v := nI 2) hx hb d_L_law_647 (by decide) ?_
    refine lv_iadd hx hb d_L_law_648 ?_
    refine y_eqi (nI_add _ _) ?_
    refine va_sld hx hb hX hbl hbA hS (vp_in_nI (show i + 2 < L by omega) (by omega)) d_L_law_649 ?_
    rw [nI_clamp (show i + 2 < 2 ^ 31 by omega)]
    refine lv_aload_n hx hb d_L_law_650 rfl (lv_at hl 1 rfl) ?_
    refine lv_iload hx hb d_L_law_651 (lv_at hl 5 rfl) ?_
    refine lv_iconst (v := nI 3) hx hb d_L_law_653 (by decide) ?_
    refine lv_iadd hx hb d_L_law_654 ?_
    refine y_eqi (nI_add _ _) ?_
    refine va_sld hx hb hX hbl hbA hS (vp_in_nI (show i + 3 < L by omega) (by omega)) d_L_law_655 ?_
    rw [nI_clamp (show i + 3 < 2 ^ 31 by omega)]
    refine y_callR (wa := w1a ++ [oC G ao f1]) (wb := w2) (y_runV (As := [.int (xs (i + 1)), .int (xs (i + 2)), .int (xs (i + 3))]) (rest := []) hx hb hml hown hcM (gV (n := 3) hg tk_938 tk_939 tk_940 tk_7 tk_941 (by decide +kernel) ⟨Nat.le_of_ble_eq_true rfl, Nat.le_of_ble_eq_true rfl⟩) (va_recv hK hP (ci := 5) (q0 := (w1a ++ [oC G ao f1]).length) rfl (at_rW _ _ hw2)) (y_preR hE hK hP hD hS hA) rfl rfl hl.1 rfl (lv_room (Nat.le_of_ble_eq_true rfl)) d_L_law_656 ⟨by show _ ≤ 601024; omega, by show _ ≤ 7293000; omega⟩) hP hD hS hA (fun _ _ h => h) (fun v w2a H locs hp2 hlw2 hP hD hS => ?_)
    obtain ⟨y, rfl⟩ := hpm v w2a hp2
    obtain ⟨exy, hR⟩ := hj1 x _ y _ hq1 hp2
    have hP : va_P (gD G) vwC ((w1a ++ [oC G ao f1]) ++ w2a) H := hP
    have hD : va_D A ((w1a ++ [oC G ao f1]) ++ w2a) := hD
    refine W.eq (g2 := F0 m 659 ls [.int y]) rfl ?_
    refine lv_istore (lv' := [(6, .int y), (5, .int (nI 0)), (0, .ref b), (1, .ref bx), (2, .ref bm), (3, .ref ao), (4, .int (nI i))]) hx hb d_L_law_659 hl (by decide) rfl (fun ls hl => ?_)
    refine lv_aload_n hx hb d_L_law_661 rfl (lv_at hl 4 rfl) ?_
    refine y_callR (wa := w1a ++ [oC G ao f1]) (wb := w2a) (y_runV (As := []) (rest := []) hx hb hml hown (j_thrown l hR) (gV (n := 0) hg tk_756 tk_757 tk_758 tk_7 tk_759 (by decide +kernel) ⟨Nat.le_of_ble_eq_true rfl, Nat.le_of_ble_eq_true rfl⟩) (va_recv hK hP (ci := 5) (q0 := (w1a ++ [oC G ao f1]).length) rfl (at_rW _ _ (rel_len hR).2.choose_spec)) (y_preR hE hK hP hD hS hA) rfl rfl hl.1 rfl (lv_room (Nat.le_of_ble_eq_true rfl)) d_L_law_662 ⟨by show _ ≤ 601024; omega, by show _ ≤ 7293000; omega⟩) hP hD hS hA (fun _ _ h => h) (fun v w9b H locs hp2 hlw2 hP hD hS => ?_)
    obtain ⟨rfl, hw9⟩ := hp2
    rw [hw9] at hP hD
    have hP : va_P (gD G) vwC ((w1a ++ [oC G ao f1]) ++ w2a) H := hP
    have hD : va_D A ((w1a ++ [oC G ao f1]) ++ w2a) := hD
    refine W.eq (g2 := F0 m 665 ls [.int (nI 0)]) rfl ?_
    refine lv_iload hx hb d_L_law_665 (lv_at hl 1 rfl) ?_
    refine yn_icmp_eq (a := 0) (b := 0) (tgt := 672) hx hb d_L_law_667 (by decide) (by omega) (by omega) (fun c667 => ?_) (fun c667 => ?_)
    · skip
      refine lv_iload hx hb d_L_law_672 (lv_at hl 1 rfl) ?_
      refine yn_if_ne (a := 0) (tgt := 689) hx hb d_L_law_674 (by decide) (by omega) (fun c674 => ?_) (fun c674 => ?_)
      · skip
        exact absurd c674 (by decide)
      · skip
        refine lv_aload_n hx hb d_L_law_677 rfl (lv_at hl 5 rfl) ?_
        refine lv_iconst (v := nI 0) hx hb d_L_law_678 (by decide) ?_
        refine va_lald hx hb hK hP w1a.length 3 (at_mW _ _ _) rfl (vp_in_nI (by decide) (by decide)) d_L_law_679 ?_
        rw [nI_clamp (show 0 < 2 ^ 31 by decide)]
        refine lv_iload hx hb d_L_law_680 (lv_at hl 0 rfl) ?_
        refine lv_i2l hx hb d_L_law_682 (v := y.toInt64) rfl ?_
        refine yq_eq (a := f1 0) (b := y.toInt64) (tgt := 689) hx hb d_L_law_683 d_L_law_684 (by decide) (fun c684 => ?_) (fun c684 => ?_)
        · skip
          refine lv_goto (tgt := 816) hx hb d_L_law_689 (by decide) ?_
          refine W.widen (k := 50 + i + 1) (n := 640000 + 6 * i + 6) (by omega) (by omega) ?_
          exact kn _ _ _ _ _ _ _ hR hP hD hS (lv_sub hl [2, 3, 4, 5, 6] rfl)
        · skip
          exact absurd c684 (fun z => z (by rw [hf1, exy]))
    · skip
      exact absurd c667 (by decide)
  · skip
    have hP : va_P (gD G) vwC ((w1a ++ [oC G ao f]) ++ w2) H := hP
    have hD : va_D A ((w1a ++ [oC G ao f]) ++ w2) := hD
    refine lv_istore (lv' := [(5, .int (xcN ["java/lang/IndexOutOfBoundsException"] E)), (0, .ref b), (1, .ref bx), (2, .ref bm), (3, .ref ao), (4, .int (nI i))]) hx hb d_L_law_635 hl (by decide) rfl (fun ls hl => ?_)
    refine lv_aload_n hx hb d_L_law_637 rfl (lv_at hl 3 rfl) ?_
    refine lv_aload_n hx hb d_L_law_638 rfl (lv_at hl 1 rfl) ?_
    refine lv_iload hx hb d_L_law_639 (lv_at hl 5 rfl) ?_
    refine lv_iconst (v := nI 1) hx hb d_L_law_641 (by decide) ?_
    refine lv_iadd hx hb d_L_law_642 ?_
    refine y_eqi (nI_add _ _) ?_
    refine va_sld hx hb hX hbl hbA hS (vp_in_nI (show i + 1 < L by omega) (by omega)) d_L_law_643 ?_
    rw [nI_clamp (show i + 1 < 2 ^ 31 by omega)]
    refine lv_aload_n hx hb d_L_law_644 rfl (lv_at hl 1 rfl) ?_
    refine lv_iload hx hb d_L_law_645 (lv_at hl 5 rfl) ?_
    refine lv_iconst (v := nI 2) hx hb d_L_law_647 (by decide) ?_
    refine lv_iadd hx hb d_L_law_648 ?_
    refine y_eqi (nI_add _ _) ?_
    refine va_sld hx hb hX hbl hbA hS (vp_in_nI (show i + 2 < L by omega) (by omega)) d_L_law_649 ?_
    rw [nI_clamp (show i + 2 < 2 ^ 31 by omega)]
    refine lv_aload_n hx hb d_L_law_650 rfl (lv_at hl 1 rfl) ?_
    refine lv_iload hx hb d_L_law_651 (lv_at hl 5 rfl) ?_
    refine lv_iconst (v := nI 3) hx hb d_L_law_653 (by decide) ?_
    refine lv_iadd hx hb d_L_law_654 ?_
    refine y_eqi (nI_add _ _) ?_
    refine va_sld hx hb hX hbl hbA hS (vp_in_nI (show i + 3 < L by omega) (by omega)) d_L_law_655 ?_
    rw [nI_clamp (show i + 3 < 2 ^ 31 by omega)]
    refine y_callR (wa := w1a ++ [oC G ao f]) (wb := w2) (y_runV (As := [.int (xs (i + 1)), .int (xs (i + 2)), .int (xs (i + 3))]) (rest := []) hx hb hml hown hcM (gV (n := 3) hg tk_938 tk_939 tk_940 tk_7 tk_941 (by decide +kernel) ⟨Nat.le_of_ble_eq_true rfl, Nat.le_of_ble_eq_true rfl⟩) (va_recv hK hP (ci := 5) (q0 := (w1a ++ [oC G ao f]).length) rfl (at_rW _ _ hw2)) (y_preR hE hK hP hD hS hA) rfl rfl hl.1 rfl (lv_room (Nat.le_of_ble_eq_true rfl)) d_L_law_656 ⟨by show _ ≤ 601024; omega, by show _ ≤ 7293000; omega⟩) hP hD hS hA (fun _ _ h => h) (fun v w2a H locs hp2 hlw2 hP hD hS => ?_)
    obtain ⟨y, rfl⟩ := hpm v w2a hp2
    obtain ⟨k9, hk9, hR⟩ := hj2 E _ y _ hq1 hp2
    have hP : va_P (gD G) vwC ((w1a ++ [oC G ao f]) ++ w2a) H := hP
    have hD : va_D A ((w1a ++ [oC G ao f]) ++ w2a) := hD
    refine W.eq (g2 := F0 m 659 ls [.int y]) rfl ?_
    refine lv_istore (lv' := [(6, .int y), (5, .int (xcN ["java/lang/IndexOutOfBoundsException"] E)), (0, .ref b), (1, .ref bx), (2, .ref bm), (3, .ref ao), (4, .int (nI i))]) hx hb d_L_law_659 hl (by decide) rfl (fun ls hl => ?_)
    refine lv_aload_n hx hb d_L_law_661 rfl (lv_at hl 4 rfl) ?_
    refine y_callR (wa := w1a ++ [oC G ao f]) (wb := w2a) (y_runV (As := []) (rest := []) hx hb hml hown (j_thrown l hR) (gV (n := 0) hg tk_756 tk_757 tk_758 tk_7 tk_759 (by decide +kernel) ⟨Nat.le_of_ble_eq_true rfl, Nat.le_of_ble_eq_true rfl⟩) (va_recv hK hP (ci := 5) (q0 := (w1a ++ [oC G ao f]).length) rfl (at_rW _ _ (rel_len hR).2.choose_spec)) (y_preR hE hK hP hD hS hA) rfl rfl hl.1 rfl (lv_room (Nat.le_of_ble_eq_true rfl)) d_L_law_662 ⟨by show _ ≤ 601024; omega, by show _ ≤ 7293000; omega⟩) hP hD hS hA (fun _ _ h => h) (fun v w9b H locs hp2 hlw2 hP hD hS => ?_)
    obtain ⟨rfl, hw9⟩ := hp2
    rw [hw9] at hP hD
    have hP : va_P (gD G) vwC ((w1a ++ [oC G ao f]) ++ w2a) H := hP
    have hD : va_D A ((w1a ++ [oC G ao f]) ++ w2a) := hD
    refine W.eq (g2 := F0 m 665 ls [.int (nI k9)]) rfl ?_
    refine lv_iload hx hb d_L_law_665 (lv_at hl 1 rfl) ?_
    refine lv_icmp_eq (tgt := 672) hx hb d_L_law_667 (by decide) (fun c667 => ?_) (fun c667 => ?_)
    · skip
      refine lv_iload hx hb d_L_law_672 (lv_at hl 1 rfl) ?_
      refine lv_if_ne (tgt := 689) hx hb d_L_law_674 (by decide) (fun c674 => ?_) (fun c674 => ?_)
      · skip
        refine lv_goto (tgt := 816) hx hb d_L_law_689 (by decide) ?_
        refine W.widen (k := 50 + i + 1) (n := 640000 + 6 * i + 6) (by omega) (by omega) ?_
        exact kn _ _ _ _ _ _ _ hR hP hD hS (lv_sub hl [2, 3, 4, 5, 6] rfl)
      · skip
        exact absurd c674 (xcN_ne (by decide))
    · skip
      exact absurd c667 (fun z => z hk9.symm)
set_option maxHeartbeats 4000000 in
set_option maxRecDepth 100000 in
theorem k_byteAt {p : Program} {l : Launch} {e : Env} {s : State} {m : MethodId} {below : List Frame} {meth : Method} {c : Code} {Q : State → Prop} {G : gl} {A : Nat → Prop} {b L : Nat} {xs : Nat → Int32} {bx bm ao : Nat} (hlt : l.stackTraces = false) (C : LC G A p s m c b L xs) {i : Nat} (hi : i + 6 ≤ L) (hL : L ≤ 3075) {w1 w2 : va_W} {th : Nat} {f : Nat → Int64} {H : Heap} {locs : List Loc} {ls : Array Slot} (hR : RelW G bx bm th w1 w2) (hP : va_P (gD G) vwC ((w1 ++ [oC G ao f]) ++ w2) H) (hD : va_D A ((w1 ++ [oC G ao f]) ++ w2)) (hS : va_S A s.heap H locs) (hl : lv_has ls 7 [(0, .ref b), (1, .ref bx), (2, .ref bm), (3, .ref ao), (4, .int (nI i))]) (kn : ∀ (w1' w2' : va_W) (th' : Nat) (f' : Nat → Int64) (H' : Heap) (locs' : List Loc) (ls' : Array Slot), RelW G bx bm th' w1' w2' → va_P (gD G) vwC ((w1' ++ [oC G ao f']) ++ w2') H' → va_D A ((w1' ++ [oC G ao f']) ++ w2') → va_S A s.heap H' locs' → lv_has ls' 7 [(0, .ref b), (1, .ref bx), (2, .ref bm), (3, .ref ao), (4, .int (nI i))] → W p l e room_1 s m #[Value.ref b] below meth c H' locs' (50 + i + 1) (640000 + 6 * i + 6) Q (F0 m 816 ls' [])) : W p l e room_1 s m #[Value.ref b] below meth c H locs (50 + i) (640000 + 6 * i) Q (F0 m 692 ls []) := by
  obtain ⟨hx, hb, hml, hown, hg, hE, hK, hA, hN, hX, hbl, hbA⟩ := C
  obtain ⟨⟨fs1, hw0⟩, fs2, hw2⟩ := rel_len hR
  obtain ⟨post, px, postM, hcW, hcM, hpv, hpx, hpm, hj1, hj2⟩ := j_byteAt hlt (xs (i + 1)) hR
  refine lv_aload_n hx hb d_L_law_692 rfl (lv_at hl 1 rfl) ?_
  refine lv_aload_n hx hb d_L_law_693 rfl (lv_at hl 0 rfl) ?_
  refine lv_iload hx hb d_L_law_694 (lv_at hl 4 rfl) ?_
  refine lv_iconst (v := nI 1) hx hb d_L_law_696 (by decide) ?_
  refine lv_iadd hx hb d_L_law_697 ?_
  refine y_eqi (nI_add _ _) ?_
  refine va_sld hx hb hX hbl hbA hS (vp_in_nI (show i + 1 < L by omega) (by omega)) d_L_law_698 ?_
  rw [nI_clamp (show i + 1 < 2 ^ 31 by omega)]
  refine lv_aload_n hx hb d_L_law_699 rfl (lv_at hl 3 rfl) ?_
  refine yh_call (wa := w1 ++ [oC G ao f]) (wb := w2) (vx_runSW (As := [.ref bx, .int (xs (i + 1)), .ref ao]) (rest := []) ⟨hx, hb, hml, hown, hg⟩ (c_L_byteAt l G bx ao w1 _ hw0 f (xs (i + 1)) post px hcW hpv (fun E w h => by simpa using hpx E w h) H.size) (gSW (n := 3) hg tk_658 tk_659 tk_0 (gt_m tq_660 rfl) (by decide +kernel) ⟨Nat.le_of_ble_eq_true rfl, Nat.le_of_ble_eq_true rfl⟩) (yh_pre hN hE hK hP hD hS hA) rfl rfl hl.1 rfl (lv_room (Nat.le_of_ble_eq_true rfl)) d_L_law_700 ⟨by show _ ≤ 601024; omega, by show _ ≤ 7293000; omega⟩) hP hD hS hA (fun r w9 H locs hp hlw hP hD hS => ?_)
  rcases hp with ⟨x, w1a, f1, hq1, rfl, hf1, rfl⟩ | ⟨E, w1a, hq1, rfl, rfl⟩
  · skip
    have hP : va_P (gD G) vwC ((w1a ++ [oC G ao f1]) ++ w2) H := hP
    have hD : va_D A ((w1a ++ [oC G ao f1]) ++ w2) := hD
    refine lv_istore (lv' := [(5, .int (nI 0)), (0, .ref b), (1, .ref bx), (2, .ref bm), (3, .ref ao), (4, .int (nI i))]) hx hb d_L_law_703 hl (by decide) rfl (fun ls hl => ?_)
    refine lv_aload_n hx hb d_L_law_705 rfl (lv_at hl 3 rfl) ?_
    refine lv_aload_n hx hb d_L_law_706 rfl (lv_at hl 1 rfl) ?_
    refine lv_iload hx hb d_L_law_707 (lv_at hl 5 rfl) ?_
    refine lv_iconst (v := nI 1) hx hb d_L_law_709 (by decide) ?_
    refine lv_iadd hx hb d_L_law_710 ?_
    refine y_eqi (nI_add _ _) ?_
    refine va_sld hx hb hX hbl hbA hS (vp_in_nI (show i + 1 < L by omega) (by omega)) d_L_law_711 ?_
    rw [nI_clamp (show i + 1 < 2 ^ 31 by omega)]
    refine y_callR (wa := w1a ++ [oC G ao f1]) (wb := w2) (y_runV (As := [.int (xs (i + 1))]) (rest := []) hx hb hml hown hcM (gV (n := 1) hg tk_942 tk_943 tk_944 tk_7 tk_945 (by decide +kernel) ⟨Nat.le_of_ble_eq_true rfl, Nat.le_of_ble_eq_true rfl⟩) (va_recv hK hP (ci := 5) (q0 := (w1a ++ [oC G ao f1]).length) rfl (at_rW _ _ hw2)) (y_preR hE hK hP hD hS hA) rfl rfl hl.1 rfl (lv_room (Nat.le_of_ble_eq_true rfl)) d_L_law_712 ⟨by show _ ≤ 601024; omega, by show _ ≤ 7293000; omega⟩) hP hD hS hA (fun _ _ h => h) (fun v w2a H locs hp2 hlw2 hP hD hS => ?_)
    obtain ⟨y, rfl⟩ := hpm v w2a hp2
    obtain ⟨exy, hR⟩ := hj1 x _ y _ hq1 hp2
    have hP : va_P (gD G) vwC ((w1a ++ [oC G ao f1]) ++ w2a) H := hP
    have hD : va_D A ((w1a ++ [oC G ao f1]) ++ w2a) := hD
    refine W.eq (g2 := F0 m 715 ls [.int y]) rfl ?_
    refine lv_istore (lv' := [(6, .int y), (5, .int (nI 0)), (0, .ref b), (1, .ref bx), (2, .ref bm), (3, .ref ao), (4, .int (nI i))]) hx hb d_L_law_715 hl (by decide) rfl (fun ls hl => ?_)
    refine lv_aload_n hx hb d_L_law_717 rfl (lv_at hl 4 rfl) ?_
    refine y_callR (wa := w1a ++ [oC G ao f1]) (wb := w2a) (y_runV (As := []) (rest := []) hx hb hml hown (j_thrown l hR) (gV (n := 0) hg tk_756 tk_757 tk_758 tk_7 tk_759 (by decide +kernel) ⟨Nat.le_of_ble_eq_true rfl, Nat.le_of_ble_eq_true rfl⟩) (va_recv hK hP (ci := 5) (q0 := (w1a ++ [oC G ao f1]).length) rfl (at_rW _ _ (rel_len hR).2.choose_spec)) (y_preR hE hK hP hD hS hA) rfl rfl hl.1 rfl (lv_room (Nat.le_of_ble_eq_true rfl)) d_L_law_718 ⟨by show _ ≤ 601024; omega, by show _ ≤ 7293000; omega⟩) hP hD hS hA (fun _ _ h => h) (fun v w9b H locs hp2 hlw2 hP hD hS => ?_)
    obtain ⟨rfl, hw9⟩ := hp2
    rw [hw9] at hP hD
    have hP : va_P (gD G) vwC ((w1a ++ [oC G ao f1]) ++ w2a) H := hP
    have hD : va_D A ((w1a ++ [oC G ao f1]) ++ w2a) := hD
    refine W.eq (g2 := F0 m 721 ls [.int (nI 0)]) rfl ?_
    refine lv_iload hx hb d_L_law_721 (lv_at hl 1 rfl) ?_
    refine yn_icmp_eq (a := 0) (b := 0) (tgt := 728) hx hb d_L_law_723 (by decide) (by omega) (by omega) (fun c723 => ?_) (fun c723 => ?_)
    · skip
      refine lv_iload hx hb d_L_law_728 (lv_at hl 1 rfl) ?_
      refine yn_if_ne (a := 0) (tgt := 745) hx hb d_L_law_730 (by decide) (by omega) (fun c730 => ?_) (fun c730 => ?_)
      · skip
        exact absurd c730 (by decide)
      · skip
        refine lv_aload_n hx hb d_L_law_733 rfl (lv_at hl 5 rfl) ?_
        refine lv_iconst (v := nI 0) hx hb d_L_law_734 (by decide) ?_
        refine va_lald hx hb hK hP w1a.length 3 (at_mW _ _ _) rfl (vp_in_nI (by decide) (by decide)) d_L_law_735 ?_
        rw [nI_clamp (show 0 < 2 ^ 31 by decide)]
        refine lv_iload hx hb d_L_law_736 (lv_at hl 0 rfl) ?_
        refine lv_i2l hx hb d_L_law_738 (v := y.toInt64) rfl ?_
        refine yq_eq (a := f1 0) (b := y.toInt64) (tgt := 745) hx hb d_L_law_739 d_L_law_740 (by decide) (fun c740 => ?_) (fun c740 => ?_)
        · skip
          refine lv_goto (tgt := 816) hx hb d_L_law_745 (by decide) ?_
          refine W.widen (k := 50 + i + 1) (n := 640000 + 6 * i + 6) (by omega) (by omega) ?_
          exact kn _ _ _ _ _ _ _ hR hP hD hS (lv_sub hl [2, 3, 4, 5, 6] rfl)
        · skip
          exact absurd c740 (fun z => z (by rw [hf1, exy]))
    · skip
      exact absurd c723 (by decide)
  · skip
    have hP : va_P (gD G) vwC ((w1a ++ [oC G ao f]) ++ w2) H := hP
    have hD : va_D A ((w1a ++ [oC G ao f]) ++ w2) := hD
    refine lv_istore (lv' := [(5, .int (xcN ["java/lang/IndexOutOfBoundsException"] E)), (0, .ref b), (1, .ref bx), (2, .ref bm), (3, .ref ao), (4, .int (nI i))]) hx hb d_L_law_703 hl (by decide) rfl (fun ls hl => ?_)
    refine lv_aload_n hx hb d_L_law_705 rfl (lv_at hl 3 rfl) ?_
    refine lv_aload_n hx hb d_L_law_706 rfl (lv_at hl 1 rfl) ?_
    refine lv_iload hx hb d_L_law_707 (lv_at hl 5 rfl) ?_
    refine lv_iconst (v := nI 1) hx hb d_L_law_709 (by decide) ?_
    refine lv_iadd hx hb d_L_law_710 ?_
    refine y_eqi (nI_add _ _) ?_
    refine va_sld hx hb hX hbl hbA hS (vp_in_nI (show i + 1 < L by omega) (by omega)) d_L_law_711 ?_
    rw [nI_clamp (show i + 1 < 2 ^ 31 by omega)]
    refine y_callR (wa := w1a ++ [oC G ao f]) (wb := w2) (y_runV (As := [.int (xs (i + 1))]) (rest := []) hx hb hml hown hcM (gV (n := 1) hg tk_942 tk_943 tk_944 tk_7 tk_945 (by decide +kernel) ⟨Nat.le_of_ble_eq_true rfl, Nat.le_of_ble_eq_true rfl⟩) (va_recv hK hP (ci := 5) (q0 := (w1a ++ [oC G ao f]).length) rfl (at_rW _ _ hw2)) (y_preR hE hK hP hD hS hA) rfl rfl hl.1 rfl (lv_room (Nat.le_of_ble_eq_true rfl)) d_L_law_712 ⟨by show _ ≤ 601024; omega, by show _ ≤ 7293000; omega⟩) hP hD hS hA (fun _ _ h => h) (fun v w2a H locs hp2 hlw2 hP hD hS => ?_)
    obtain ⟨y, rfl⟩ := hpm v w2a hp2
    obtain ⟨k9, hk9, hR⟩ := hj2 E _ y _ hq1 hp2
    have hP : va_P (gD G) vwC ((w1a ++ [oC G ao f]) ++ w2a) H := hP
    have hD : va_D A ((w1a ++ [oC G ao f]) ++ w2a) := hD
    refine W.eq (g2 := F0 m 715 ls [.int y]) rfl ?_
    refine lv_istore (lv' := [(6, .int y), (5, .int (xcN ["java/lang/IndexOutOfBoundsException"] E)), (0, .ref b), (1, .ref bx), (2, .ref bm), (3, .ref ao), (4, .int (nI i))]) hx hb d_L_law_715 hl (by decide) rfl (fun ls hl => ?_)
    refine lv_aload_n hx hb d_L_law_717 rfl (lv_at hl 4 rfl) ?_
    refine y_callR (wa := w1a ++ [oC G ao f]) (wb := w2a) (y_runV (As := []) (rest := []) hx hb hml hown (j_thrown l hR) (gV (n := 0) hg tk_756 tk_757 tk_758 tk_7 tk_759 (by decide +kernel) ⟨Nat.le_of_ble_eq_true rfl, Nat.le_of_ble_eq_true rfl⟩) (va_recv hK hP (ci := 5) (q0 := (w1a ++ [oC G ao f]).length) rfl (at_rW _ _ (rel_len hR).2.choose_spec)) (y_preR hE hK hP hD hS hA) rfl rfl hl.1 rfl (lv_room (Nat.le_of_ble_eq_true rfl)) d_L_law_718 ⟨by show _ ≤ 601024; omega, by show _ ≤ 7293000; omega⟩) hP hD hS hA (fun _ _ h => h) (fun v w9b H locs hp2 hlw2 hP hD hS => ?_)
    obtain ⟨rfl, hw9⟩ := hp2
    rw [hw9] at hP hD
    have hP : va_P (gD G) vwC ((w1a ++ [oC G ao f]) ++ w2a) H := hP
    have hD : va_D A ((w1a ++ [oC G ao f]) ++ w2a) := hD
    refine W.eq (g2 := F0 m 721 ls [.int (nI k9)]) rfl ?_
    refine lv_iload hx hb d_L_law_721 (lv_at hl 1 rfl) ?_
    refine lv_icmp_eq (tgt := 728) hx hb d_L_law_723 (by decide) (fun c723 => ?_) (fun c723 => ?_)
    · skip
      refine lv_iload hx hb d_L_law_728 (lv_at hl 1 rfl) ?_
      refine lv_if_ne (tgt := 745) hx hb d_L_law_730 (by decide) (fun c730 => ?_) (fun c730 => ?_)
      · skip
        refine lv_goto (tgt := 816) hx hb d_L_law_745 (by decide) ?_
        refine W.widen (k := 50 + i + 1) (n := 640000 + 6 * i + 6) (by omega) (by omega) ?_
        exact kn _ _ _ _ _ _ _ hR hP hD hS (lv_sub hl [2, 3, 4, 5, 6] rfl)
      · skip
        exact absurd c730 (xcN_ne (by decide))
    · skip
      exact absurd c723 (fun z => z hk9.symm)
set_option maxHeartbeats 4000000 in
set_option maxRecDepth 100000 in
theorem k_count {p : Program} {l : Launch} {e : Env} {s : State} {m : MethodId} {below : List Frame} {meth : Method} {c : Code} {Q : State → Prop} {G : gl} {A : Nat → Prop} {b L : Nat} {xs : Nat → Int32} {bx bm ao : Nat} (hlt : l.stackTraces = false) (C : LC G A p s m c b L xs) {i : Nat} (hi : i + 6 ≤ L) (hL : L ≤ 3075) {w1 w2 : va_W} {th : Nat} {f : Nat → Int64} {H : Heap} {locs : List Loc} {ls : Array Slot} (hR : RelW G bx bm th w1 w2) (hP : va_P (gD G) vwC ((w1 ++ [oC G ao f]) ++ w2) H) (hD : va_D A ((w1 ++ [oC G ao f]) ++ w2)) (hS : va_S A s.heap H locs) (hl : lv_has ls 7 [(0, .ref b), (1, .ref bx), (2, .ref bm), (3, .ref ao), (4, .int (nI i))]) (kn : ∀ (w1' w2' : va_W) (th' : Nat) (f' : Nat → Int64) (H' : Heap) (locs' : List Loc) (ls' : Array Slot), RelW G bx bm th' w1' w2' → va_P (gD G) vwC ((w1' ++ [oC G ao f']) ++ w2') H' → va_D A ((w1' ++ [oC G ao f']) ++ w2') → va_S A s.heap H' locs' → lv_has ls' 7 [(0, .ref b), (1, .ref bx), (2, .ref bm), (3, .ref ao), (4, .int (nI i))] → W p l e room_1 s m #[Value.ref b] below meth c H' locs' (50 + i + 1) (640000 + 6 * i + 6) Q (F0 m 816 ls' [])) : W p l e room_1 s m #[Value.ref b] below meth c H locs (50 + i) (640000 + 6 * i) Q (F0 m 748 ls []) := by
  obtain ⟨hx, hb, hml, hown, hg, hE, hK, hA, hN, hX, hbl, hbA⟩ := C
  obtain ⟨⟨fs1, hw0⟩, fs2, hw2⟩ := rel_len hR
  obtain ⟨post, px, postM, hcW, hcM, hpv, hpx, hpm, hj1, hj2⟩ := j_count hlt (xs (i + 1)) (xs (i + 2)) hR
  refine lv_aload_n hx hb d_L_law_748 rfl (lv_at hl 1 rfl) ?_
  refine lv_aload_n hx hb d_L_law_749 rfl (lv_at hl 0 rfl) ?_
  refine lv_iload hx hb d_L_law_750 (lv_at hl 4 rfl) ?_
  refine lv_iconst (v := nI 1) hx hb d_L_law_752 (by decide) ?_
  refine lv_iadd hx hb d_L_law_753 ?_
  refine y_eqi (nI_add _ _) ?_
  refine va_sld hx hb hX hbl hbA hS (vp_in_nI (show i + 1 < L by omega) (by omega)) d_L_law_754 ?_
  rw [nI_clamp (show i + 1 < 2 ^ 31 by omega)]
  refine lv_aload_n hx hb d_L_law_755 rfl (lv_at hl 0 rfl) ?_
  refine lv_iload hx hb d_L_law_756 (lv_at hl 4 rfl) ?_
  refine lv_iconst (v := nI 2) hx hb d_L_law_758 (by decide) ?_
  refine lv_iadd hx hb d_L_law_759 ?_
  refine y_eqi (nI_add _ _) ?_
  refine va_sld hx hb hX hbl hbA hS (vp_in_nI (show i + 2 < L by omega) (by omega)) d_L_law_760 ?_
  rw [nI_clamp (show i + 2 < 2 ^ 31 by omega)]
  refine lv_aload_n hx hb d_L_law_761 rfl (lv_at hl 3 rfl) ?_
  refine yh_call (wa := w1 ++ [oC G ao f]) (wb := w2) (vx_runSW (As := [.ref bx, .int (xs (i + 1)), .int (xs (i + 2)), .ref ao]) (rest := []) ⟨hx, hb, hml, hown, hg⟩ (c_L_count l G bx ao w1 _ hw0 f (xs (i + 1)) (xs (i + 2)) post px hcW hpv (fun E w h => by simpa using hpx E w h) H.size) (gSW (n := 4) hg tk_666 tk_667 tk_0 (gt_m tq_668 rfl) (by decide +kernel) ⟨Nat.le_of_ble_eq_true rfl, Nat.le_of_ble_eq_true rfl⟩) (yh_pre hN hE hK hP hD hS hA) rfl rfl hl.1 rfl (lv_room (Nat.le_of_ble_eq_true rfl)) d_L_law_762 ⟨by show _ ≤ 601024; omega, by show _ ≤ 7293000; omega⟩) hP hD hS hA (fun r w9 H locs hp hlw hP hD hS => ?_)
  rcases hp with ⟨x, w1a, f1, hq1, rfl, hf1, rfl⟩ | ⟨E, w1a, hq1, rfl, rfl⟩
  · skip
    have hP : va_P (gD G) vwC ((w1a ++ [oC G ao f1]) ++ w2) H := hP
    have hD : va_D A ((w1a ++ [oC G ao f1]) ++ w2) := hD
    refine lv_istore (lv' := [(5, .int (nI 0)), (0, .ref b), (1, .ref bx), (2, .ref bm), (3, .ref ao), (4, .int (nI i))]) hx hb d_L_law_765 hl (by decide) rfl (fun ls hl => ?_)
    refine lv_aload_n hx hb d_L_law_767 rfl (lv_at hl 3 rfl) ?_
    refine lv_aload_n hx hb d_L_law_768 rfl (lv_at hl 1 rfl) ?_
    refine lv_iload hx hb d_L_law_769 (lv_at hl 5 rfl) ?_
    refine lv_iconst (v := nI 1) hx hb d_L_law_771 (by decide) ?_
    refine lv_iadd hx hb d_L_law_772 ?_
    refine y_eqi (nI_add _ _) ?_
    refine va_sld hx hb hX hbl hbA hS (vp_in_nI (show i + 1 < L by omega) (by omega)) d_L_law_773 ?_
    rw [nI_clamp (show i + 1 < 2 ^ 31 by omega)]
    refine lv_aload_n hx hb d_L_law_774 rfl (lv_at hl 1 rfl) ?_
    refine lv_iload hx hb d_L_law_775 (lv_at hl 5 rfl) ?_
    refine lv_iconst (v := nI 2) hx hb d_L_law_777 (by decide) ?_
    refine lv_iadd hx hb d_L_law_778 ?_
    refine y_eqi (nI_add _ _) ?_
    refine va_sld hx hb hX hbl hbA hS (vp_in_nI (show i + 2 < L by omega) (by omega)) d_L_law_779 ?_
    rw [nI_clamp (show i + 2 < 2 ^ 31 by omega)]
    refine y_callR (wa := w1a ++ [oC G ao f1]) (wb := w2) (y_runV (As := [.int (xs (i + 1)), .int (xs (i + 2))]) (rest := []) hx hb hml hown hcM (gV (n := 2) hg tk_946 tk_947 tk_948 tk_7 tk_949 (by decide +kernel) ⟨Nat.le_of_ble_eq_true rfl, Nat.le_of_ble_eq_true rfl⟩) (va_recv hK hP (ci := 5) (q0 := (w1a ++ [oC G ao f1]).length) rfl (at_rW _ _ hw2)) (y_preR hE hK hP hD hS hA) rfl rfl hl.1 rfl (lv_room (Nat.le_of_ble_eq_true rfl)) d_L_law_780 ⟨by show _ ≤ 601024; omega, by show _ ≤ 7293000; omega⟩) hP hD hS hA (fun _ _ h => h) (fun v w2a H locs hp2 hlw2 hP hD hS => ?_)
    obtain ⟨y, rfl⟩ := hpm v w2a hp2
    obtain ⟨exy, hR⟩ := hj1 x _ y _ hq1 hp2
    have hP : va_P (gD G) vwC ((w1a ++ [oC G ao f1]) ++ w2a) H := hP
    have hD : va_D A ((w1a ++ [oC G ao f1]) ++ w2a) := hD
    refine W.eq (g2 := F0 m 783 ls [.int y]) rfl ?_
    refine lv_istore (lv' := [(6, .int y), (5, .int (nI 0)), (0, .ref b), (1, .ref bx), (2, .ref bm), (3, .ref ao), (4, .int (nI i))]) hx hb d_L_law_783 hl (by decide) rfl (fun ls hl => ?_)
    refine lv_aload_n hx hb d_L_law_785 rfl (lv_at hl 4 rfl) ?_
    refine y_callR (wa := w1a ++ [oC G ao f1]) (wb := w2a) (y_runV (As := []) (rest := []) hx hb hml hown (j_thrown l hR) (gV (n := 0) hg tk_756 tk_757 tk_758 tk_7 tk_759 (by decide +kernel) ⟨Nat.le_of_ble_eq_true rfl, Nat.le_of_ble_eq_true rfl⟩) (va_recv hK hP (ci := 5) (q0 := (w1a ++ [oC G ao f1]).length) rfl (at_rW _ _ (rel_len hR).2.choose_spec)) (y_preR hE hK hP hD hS hA) rfl rfl hl.1 rfl (lv_room (Nat.le_of_ble_eq_true rfl)) d_L_law_786 ⟨by show _ ≤ 601024; omega, by show _ ≤ 7293000; omega⟩) hP hD hS hA (fun _ _ h => h) (fun v w9b H locs hp2 hlw2 hP hD hS => ?_)
    obtain ⟨rfl, hw9⟩ := hp2
    rw [hw9] at hP hD
    have hP : va_P (gD G) vwC ((w1a ++ [oC G ao f1]) ++ w2a) H := hP
    have hD : va_D A ((w1a ++ [oC G ao f1]) ++ w2a) := hD
    refine W.eq (g2 := F0 m 789 ls [.int (nI 0)]) rfl ?_
    refine lv_iload hx hb d_L_law_789 (lv_at hl 1 rfl) ?_
    refine yn_icmp_eq (a := 0) (b := 0) (tgt := 796) hx hb d_L_law_791 (by decide) (by omega) (by omega) (fun c791 => ?_) (fun c791 => ?_)
    · skip
      refine lv_iload hx hb d_L_law_796 (lv_at hl 1 rfl) ?_
      refine yn_if_ne (a := 0) (tgt := 813) hx hb d_L_law_798 (by decide) (by omega) (fun c798 => ?_) (fun c798 => ?_)
      · skip
        exact absurd c798 (by decide)
      · skip
        refine lv_aload_n hx hb d_L_law_801 rfl (lv_at hl 5 rfl) ?_
        refine lv_iconst (v := nI 0) hx hb d_L_law_802 (by decide) ?_
        refine va_lald hx hb hK hP w1a.length 3 (at_mW _ _ _) rfl (vp_in_nI (by decide) (by decide)) d_L_law_803 ?_
        rw [nI_clamp (show 0 < 2 ^ 31 by decide)]
        refine lv_iload hx hb d_L_law_804 (lv_at hl 0 rfl) ?_
        refine lv_i2l hx hb d_L_law_806 (v := y.toInt64) rfl ?_
        refine yq_eq (a := f1 0) (b := y.toInt64) (tgt := 813) hx hb d_L_law_807 d_L_law_808 (by decide) (fun c808 => ?_) (fun c808 => ?_)
        · skip
          refine lv_goto (tgt := 816) hx hb d_L_law_813 (by decide) ?_
          refine W.widen (k := 50 + i + 1) (n := 640000 + 6 * i + 6) (by omega) (by omega) ?_
          exact kn _ _ _ _ _ _ _ hR hP hD hS (lv_sub hl [2, 3, 4, 5, 6] rfl)
        · skip
          exact absurd c808 (fun z => z (by rw [hf1, exy]))
    · skip
      exact absurd c791 (by decide)
  · skip
    have hP : va_P (gD G) vwC ((w1a ++ [oC G ao f]) ++ w2) H := hP
    have hD : va_D A ((w1a ++ [oC G ao f]) ++ w2) := hD
    refine lv_istore (lv' := [(5, .int (xcN ["java/lang/IndexOutOfBoundsException"] E)), (0, .ref b), (1, .ref bx), (2, .ref bm), (3, .ref ao), (4, .int (nI i))]) hx hb d_L_law_765 hl (by decide) rfl (fun ls hl => ?_)
    refine lv_aload_n hx hb d_L_law_767 rfl (lv_at hl 3 rfl) ?_
    refine lv_aload_n hx hb d_L_law_768 rfl (lv_at hl 1 rfl) ?_
    refine lv_iload hx hb d_L_law_769 (lv_at hl 5 rfl) ?_
    refine lv_iconst (v := nI 1) hx hb d_L_law_771 (by decide) ?_
    refine lv_iadd hx hb d_L_law_772 ?_
    refine y_eqi (nI_add _ _) ?_
    refine va_sld hx hb hX hbl hbA hS (vp_in_nI (show i + 1 < L by omega) (by omega)) d_L_law_773 ?_
    rw [nI_clamp (show i + 1 < 2 ^ 31 by omega)]
    refine lv_aload_n hx hb d_L_law_774 rfl (lv_at hl 1 rfl) ?_
    refine lv_iload hx hb d_L_law_775 (lv_at hl 5 rfl) ?_
    refine lv_iconst (v := nI 2) hx hb d_L_law_777 (by decide) ?_
    refine lv_iadd hx hb d_L_law_778 ?_
    refine y_eqi (nI_add _ _) ?_
    refine va_sld hx hb hX hbl hbA hS (vp_in_nI (show i + 2 < L by omega) (by omega)) d_L_law_779 ?_
    rw [nI_clamp (show i + 2 < 2 ^ 31 by omega)]
    refine y_callR (wa := w1a ++ [oC G ao f]) (wb := w2) (y_runV (As := [.int (xs (i + 1)), .int (xs (i + 2))]) (rest := []) hx hb hml hown hcM (gV (n := 2) hg tk_946 tk_947 tk_948 tk_7 tk_949 (by decide +kernel) ⟨Nat.le_of_ble_eq_true rfl, Nat.le_of_ble_eq_true rfl⟩) (va_recv hK hP (ci := 5) (q0 := (w1a ++ [oC G ao f]).length) rfl (at_rW _ _ hw2)) (y_preR hE hK hP hD hS hA) rfl rfl hl.1 rfl (lv_room (Nat.le_of_ble_eq_true rfl)) d_L_law_780 ⟨by show _ ≤ 601024; omega, by show _ ≤ 7293000; omega⟩) hP hD hS hA (fun _ _ h => h) (fun v w2a H locs hp2 hlw2 hP hD hS => ?_)
    obtain ⟨y, rfl⟩ := hpm v w2a hp2
    obtain ⟨k9, hk9, hR⟩ := hj2 E _ y _ hq1 hp2
    have hP : va_P (gD G) vwC ((w1a ++ [oC G ao f]) ++ w2a) H := hP
    have hD : va_D A ((w1a ++ [oC G ao f]) ++ w2a) := hD
    refine W.eq (g2 := F0 m 783 ls [.int y]) rfl ?_
    refine lv_istore (lv' := [(6, .int y), (5, .int (xcN ["java/lang/IndexOutOfBoundsException"] E)), (0, .ref b), (1, .ref bx), (2, .ref bm), (3, .ref ao), (4, .int (nI i))]) hx hb d_L_law_783 hl (by decide) rfl (fun ls hl => ?_)
    refine lv_aload_n hx hb d_L_law_785 rfl (lv_at hl 4 rfl) ?_
    refine y_callR (wa := w1a ++ [oC G ao f]) (wb := w2a) (y_runV (As := []) (rest := []) hx hb hml hown (j_thrown l hR) (gV (n := 0) hg tk_756 tk_757 tk_758 tk_7 tk_759 (by decide +kernel) ⟨Nat.le_of_ble_eq_true rfl, Nat.le_of_ble_eq_true rfl⟩) (va_recv hK hP (ci := 5) (q0 := (w1a ++ [oC G ao f]).length) rfl (at_rW _ _ (rel_len hR).2.choose_spec)) (y_preR hE hK hP hD hS hA) rfl rfl hl.1 rfl (lv_room (Nat.le_of_ble_eq_true rfl)) d_L_law_786 ⟨by show _ ≤ 601024; omega, by show _ ≤ 7293000; omega⟩) hP hD hS hA (fun _ _ h => h) (fun v w9b H locs hp2 hlw2 hP hD hS => ?_)
    obtain ⟨rfl, hw9⟩ := hp2
    rw [hw9] at hP hD
    have hP : va_P (gD G) vwC ((w1a ++ [oC G ao f]) ++ w2a) H := hP
    have hD : va_D A ((w1a ++ [oC G ao f]) ++ w2a) := hD
    refine W.eq (g2 := F0 m 789 ls [.int (nI k9)]) rfl ?_
    refine lv_iload hx hb d_L_law_789 (lv_at hl 1 rfl) ?_
    refine lv_icmp_eq (tgt := 796) hx hb d_L_law_791 (by decide) (fun c791 => ?_) (fun c791 => ?_)
    · skip
      refine lv_iload hx hb d_L_law_796 (lv_at hl 1 rfl) ?_
      refine lv_if_ne (tgt := 813) hx hb d_L_law_798 (by decide) (fun c798 => ?_) (fun c798 => ?_)
      · skip
        refine lv_goto (tgt := 816) hx hb d_L_law_813 (by decide) ?_
        refine W.widen (k := 50 + i + 1) (n := 640000 + 6 * i + 6) (by omega) (by omega) ?_
        exact kn _ _ _ _ _ _ _ hR hP hD hS (lv_sub hl [2, 3, 4, 5, 6] rfl)
      · skip
        exact absurd c798 (xcN_ne (by decide))
    · skip
      exact absurd c791 (fun z => z hk9.symm)
