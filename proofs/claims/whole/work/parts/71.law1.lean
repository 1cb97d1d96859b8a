theorem at_lastW (w : va_W) (x : Nat × va_E) : (w ++ [x])[w.length]? = some x := by simp
theorem set_lastW (w : va_W) (x y : Nat × va_E) : (w ++ [x]).set w.length y = w ++ [y] := by
  rw [List.set_append_right _ _ (Nat.le_refl _), Nat.sub_self]; rfl
theorem at_0W {ws : va_W} {x y : Nat × va_E} (h : ws[0]? = some y) : (ws ++ [x])[0]? = some y := by
  rw [List.getElem?_append_left (List.getElem?_eq_some_iff.mp h).1]; exact h
/-- the number that a helper answers for a throw -/
def xcN (Es : List String) (E : String) : Int32 := nI (Es.idxOf E + 1)

set_option maxHeartbeats 4000000 in
set_option maxRecDepth 100000 in
theorem c_L_feed (l : Launch) (G : gl) (bx ao : Nat) (ws : va_W) (fs : List Value) (hws : ws[0]? = some (bx, .inr (4, fs))) (f : Nat → Int64) (a1 : Int32) (a2 : Int32) (a3 : Int32) (a4 : Int32) (a5 : Int32) (post : Option Value → va_W → Prop) (px : String → va_W → Prop) (hM : YC l G y_W_feed k_W_feed 6 (Option.some FieldType.int) 6 90 [.ref bx, .int a1, .int a2, .int a3, .int a4, .int a5] ws post px) (hpv : ∀ v w, post v w → ∃ x, v = some (.int x)) (hpx : ∀ E w, px E w → E = "java/lang/IllegalStateException") : YH l G y_L_feed k_L_feed 8 [(0, 16, 19, 13)] 7 115 [.ref bx, .int a1, .int a2, .int a3, .int a4, .int a5, .ref ao] (ws ++ [oC G ao f]) (fun r w => (∃ x w1 f1, post (some (.int x)) w1 ∧ r = nI 0 ∧ f1 0 = x.toInt64 ∧ w = w1 ++ [oC G ao f1]) ∨ ∃ E w1, px E w1 ∧ r = xcN ["java/lang/IllegalStateException"] E ∧ w = w1 ++ [oC G ao f]) := by
  refine yh_of (by decide) ?_
  intro pg ev sx mm bl mt cd A C0 hP hD
  obtain ⟨hx, hb, hrt, hml, hown, hg, hlocks, htb, hE, hK, hA, hN⟩ := C0
  have hS : va_S A sx.heap sx.heap [] := va_S.rf
  have hl := lv_entry ([.ref bx, .int a1, .int a2, .int a3, .int a4, .int a5, .ref ao]) (n := 8) (Nat.le_of_ble_eq_true rfl)
  rw [lg_entry_eq]
  generalize (lg_sl ([.ref bx, .int a1, .int a2, .int a3, .int a4, .int a5, .ref ao]) ++ List.replicate (8 - (lg_sl ([.ref bx, .int a1, .int a2, .int a3, .int a4, .int a5, .ref ao])).length) Slot.unset).toArray = ls at hl ⊢
  have hl : lv_has ls 8 [(0, .ref bx), (1, .int a1), (2, .int a2), (3, .int a3), (4, .int a4), (5, .int a5), (6, .ref ao)] := hl
  refine lv_aload hx hb d_L_feed_0 (lv_at hl 6 rfl) ?_
  refine lv_iconst (v := nI 0) hx hb d_L_feed_2 (by decide) ?_
  refine lv_aload_n hx hb d_L_feed_3 rfl (lv_at hl 0 rfl) ?_
  refine lv_iload_n hx hb d_L_feed_4 rfl (lv_at hl 1 rfl) ?_
  refine lv_iload_n hx hb d_L_feed_5 rfl (lv_at hl 2 rfl) ?_
  refine lv_iload_n hx hb d_L_feed_6 rfl (lv_at hl 3 rfl) ?_
  refine lv_iload hx hb d_L_feed_7 (lv_at hl 4 rfl) ?_
  refine lv_iload hx hb d_L_feed_9 (lv_at hl 5 rfl) ?_
  refine y_callL (y_runV (As := [.int a1, .int a2, .int a3, .int a4, .int a5]) (rest := [.int (nI 0), .ref ao]) hx hb hml hown hM (gV (n := 5) hg tk_185 tk_186 tk_187 tk_1 tk_188 (by decide +kernel) ⟨Nat.le_of_ble_eq_true rfl, Nat.le_of_ble_eq_true rfl⟩) (va_recv hK hP (ci := 4) (q0 := 0) rfl (at_0W hws)) (y_preL hE hK hP hD hS hA) rfl rfl hl.1 rfl (lv_room (Nat.le_of_ble_eq_true rfl)) d_L_feed_11 ⟨Nat.le_of_ble_eq_true rfl, Nat.le_of_ble_eq_true rfl⟩) hP hD hS hA (fun E w q ce H locs hp hlw hP hD hS hq1 hq2 hq3 => ?_) (fun v w H locs hp hlw hP hD hS => ?_)
  · skip
    have hlen : (w ++ [oC G ao f]).length = (ws ++ [oC G ao f]).length := by rw [List.length_append, List.length_append, hlw]
    rcases hpx E w hp with rfl
    · skip
      refine vx_catch (own := "WordShapesLaw") (name := "java/lang/IllegalStateException") hown [] (⟨0, 16, 19, 13⟩ : ExceptionTableEntry) [] (htb.trans rfl) (fun z hz => by cases hz) (by decide) (by decide) (hg _ tk_184) (va_Nw.use rfl (nw_192 hE.1)) hq1 hq2 hq3 ?_
      refine lv_astore (lv' := [(7, .ref q), (0, .ref bx), (1, .int a1), (2, .int a2), (3, .int a3), (4, .int a4), (5, .int a5), (6, .ref ao)]) hx hb d_L_feed_19 hl (by decide) rfl (fun ls hl => ?_)
      refine lv_iconst (v := nI 1) hx hb d_L_feed_21 (by decide) ?_
      exact yh_ret hx hb hrt hlocks (Nat.le_refl _) (Nat.le_refl _) (Or.inr ⟨_, w, hp, (by decide), rfl⟩) hlen hK hP hD hS d_L_feed_22
  · skip
    obtain ⟨x, rfl⟩ := hpv v w hp
    refine W.eq (g2 := F0 mm 14 ls [.int x, .int (nI 0), .ref ao]) rfl ?_
    refine lv_i2l hx hb d_L_feed_14 (v := x.toInt64) rfl ?_
    refine va_last hx hb hK hP hD hS w.length 3 (at_lastW _ _) rfl (vp_in_nI (by decide) (by decide)) d_L_feed_15 (fun H locs hP hD hS => ?_)
    rw [set_lastW] at hP hD
    refine lv_goto (tgt := 23) hx hb d_L_feed_16 (by decide) ?_
    refine lv_iconst (v := nI 0) hx hb d_L_feed_23 (by decide) ?_
    exact yh_ret hx hb hrt hlocks (Nat.zero_le _) (Nat.zero_le _) (Or.inl ⟨x, w, _, hp, rfl, (by rw [nI_clamp (by decide)]; exact if_pos rfl), rfl⟩) (by rw [List.length_append, List.length_append, hlw]; rfl) hK hP hD hS d_L_feed_24
set_option maxHeartbeats 4000000 in
set_option maxRecDepth 100000 in
theorem c_L_end (l : Launch) (G : gl) (bx ao : Nat) (ws : va_W) (fs : List Value) (hws : ws[0]? = some (bx, .inr (4, fs))) (f : Nat → Int64) (a1 : Int32) (post : Option Value → va_W → Prop) (px : String → va_W → Prop) (hM : YC l G y_W_end k_W_end 2 (Option.some FieldType.int) 6 90 [.ref bx, .int a1] ws post px) (hpv : ∀ v w, post v w → ∃ x, v = some (.int x)) (hpx : ∀ E w, px E w → E = "java/lang/IllegalArgumentException" ∨ E = "java/lang/IllegalStateException") : YH l G y_L_end k_L_end 4 [(0, 9, 12, 19), (0, 9, 15, 13)] 7 111 [.ref bx, .int a1, .ref ao] (ws ++ [oC G ao f]) (fun r w => (∃ x w1 f1, post (some (.int x)) w1 ∧ r = nI 0 ∧ f1 0 = x.toInt64 ∧ w = w1 ++ [oC G ao f1]) ∨ ∃ E w1, px E w1 ∧ r = xcN ["java/lang/IllegalArgumentException", "java/lang/IllegalStateException"] E ∧ w = w1 ++ [oC G ao f]) := by
  refine yh_of (by decide) ?_
  intro pg ev sx mm bl mt cd A C0 hP hD
  obtain ⟨hx, hb, hrt, hml, hown, hg, hlocks, htb, hE, hK, hA, hN⟩ := C0
  have hS : va_S A sx.heap sx.heap [] := va_S.rf
  have hl := lv_entry ([.ref bx, .int a1, .ref ao]) (n := 4) (Nat.le_of_ble_eq_true rfl)
  rw [lg_entry_eq]
  generalize (lg_sl ([.ref bx, .int a1, .ref ao]) ++ List.replicate (4 - (lg_sl ([.ref bx, .int a1, .ref ao])).length) Slot.unset).toArray = ls at hl ⊢
  have hl : lv_has ls 4 [(0, .ref bx), (1, .int a1), (2, .ref ao)] := hl
  refine lv_aload_n hx hb d_L_end_0 rfl (lv_at hl 2 rfl) ?_
  refine lv_iconst (v := nI 0) hx hb d_L_end_1 (by decide) ?_
  refine lv_aload_n hx hb d_L_end_2 rfl (lv_at hl 0 rfl) ?_
  refine lv_iload_n hx hb d_L_end_3 rfl (lv_at hl 1 rfl) ?_
  refine y_callL (y_runV (As := [.int a1]) (rest := [.int (nI 0), .ref ao]) hx hb hml hown hM (gV (n := 1) hg tk_266 tk_267 tk_268 tk_1 tk_269 (by decide +kernel) ⟨Nat.le_of_ble_eq_true rfl, Nat.le_of_ble_eq_true rfl⟩) (va_recv hK hP (ci := 4) (q0 := 0) rfl (at_0W hws)) (y_preL hE hK hP hD hS hA) rfl rfl hl.1 rfl (lv_room (Nat.le_of_ble_eq_true rfl)) d_L_end_4 ⟨Nat.le_of_ble_eq_true rfl, Nat.le_of_ble_eq_true rfl⟩) hP hD hS hA (fun E w q ce H locs hp hlw hP hD hS hq1 hq2 hq3 => ?_) (fun v w H locs hp hlw hP hD hS => ?_)
  · skip
    have hlen : (w ++ [oC G ao f]).length = (ws ++ [oC G ao f]).length := by rw [List.length_append, List.length_append, hlw]
    rcases hpx E w hp with rfl | rfl
    · skip
      refine vx_catch (own := "WordShapesLaw") (name := "java/lang/IllegalArgumentException") hown [] (⟨0, 9, 12, 19⟩ : ExceptionTableEntry) [(⟨0, 9, 15, 13⟩ : ExceptionTableEntry)] (htb.trans rfl) (fun z hz => by cases hz) (by decide) (by decide) (hg _ tk_265) (va_Nw.use rfl (nw_272 hE.1)) hq1 hq2 hq3 ?_
      refine lv_astore_n (lv' := [(3, .ref q), (0, .ref bx), (1, .int a1), (2, .ref ao)]) hx hb d_L_end_12 rfl hl (by decide) rfl (fun ls hl => ?_)
      refine lv_iconst (v := nI 1) hx hb d_L_end_13 (by decide) ?_
      exact yh_ret hx hb hrt hlocks (Nat.le_refl _) (Nat.le_refl _) (Or.inr ⟨_, w, hp, (by decide), rfl⟩) hlen hK hP hD hS d_L_end_14
    · skip
      refine vx_catch (own := "WordShapesLaw") (name := "java/lang/IllegalStateException") hown [(⟨0, 9, 12, 19⟩ : ExceptionTableEntry)] (⟨0, 9, 15, 13⟩ : ExceptionTableEntry) [] (htb.trans rfl) (fun z hz => by rcases (show z = (⟨0, 9, 12, 19⟩ : ExceptionTableEntry) by simpa using hz) with rfl <;> first | exact Or.inr ⟨by decide, "java/lang/IllegalArgumentException", hg _ tk_265, hN.1⟩) (by decide) (by decide) (hg _ tk_184) (va_Nw.use rfl (nw_192 hE.1)) hq1 hq2 hq3 ?_
      refine lv_astore_n (lv' := [(3, .ref q), (0, .ref bx), (1, .int a1), (2, .ref ao)]) hx hb d_L_end_15 rfl hl (by decide) rfl (fun ls hl => ?_)
      refine lv_iconst (v := nI 2) hx hb d_L_end_16 (by decide) ?_
      exact yh_ret hx hb hrt hlocks (Nat.le_refl _) (Nat.le_refl _) (Or.inr ⟨_, w, hp, (by decide), rfl⟩) hlen hK hP hD hS d_L_end_17
  · skip
    obtain ⟨x, rfl⟩ := hpv v w hp
    refine W.eq (g2 := F0 mm 7 ls [.int x, .int (nI 0), .ref ao]) rfl ?_
    refine lv_i2l hx hb d_L_end_7 (v := x.toInt64) rfl ?_
    refine va_last hx hb hK hP hD hS w.length 3 (at_lastW _ _) rfl (vp_in_nI (by decide) (by decide)) d_L_end_8 (fun H locs hP hD hS => ?_)
    rw [set_lastW] at hP hD
    refine lv_goto (tgt := 18) hx hb d_L_end_9 (by decide) ?_
    refine lv_iconst (v := nI 0) hx hb d_L_end_18 (by decide) ?_
    exact yh_ret hx hb hrt hlocks (Nat.zero_le _) (Nat.zero_le _) (Or.inl ⟨x, w, _, hp, rfl, (by rw [nI_clamp (by decide)]; exact if_pos rfl), rfl⟩) (by rw [List.length_append, List.length_append, hlw]; rfl) hK hP hD hS d_L_end_19
set_option maxHeartbeats 4000000 in
set_option maxRecDepth 100000 in
theorem c_L_read (l : Launch) (G : gl) (bx ao : Nat) (ws : va_W) (fs : List Value) (hws : ws[0]? = some (bx, .inr (4, fs))) (f : Nat → Int64) (a1 : Int32) (post : Option Value → va_W → Prop) (px : String → va_W → Prop) (hM : YC l G y_W_read k_W_read 4 (Option.some FieldType.int) 12 232 [.ref bx, .int a1] ws post px) (hpv : ∀ v w, post v w → ∃ x, v = some (.int x)) (hpx : ∀ E w, px E w → E = "java/lang/IndexOutOfBoundsException" ∨ E = "java/lang/IllegalArgumentException") : YH l G y_L_read k_L_read 4 [(0, 9, 12, 24), (0, 9, 15, 19)] 13 255 [.ref bx, .int a1, .ref ao] (ws ++ [oC G ao f]) (fun r w => (∃ x w1 f1, post (some (.int x)) w1 ∧ r = nI 0 ∧ f1 0 = x.toInt64 ∧ w = w1 ++ [oC G ao f1]) ∨ ∃ E w1, px E w1 ∧ r = xcN ["java/lang/IndexOutOfBoundsException", "java/lang/IllegalArgumentException"] E ∧ w = w1 ++ [oC G ao f]) := by
  refine yh_of (by decide) ?_
  intro pg ev sx mm bl mt cd A C0 hP hD
  obtain ⟨hx, hb, hrt, hml, hown, hg, hlocks, htb, hE, hK, hA, hN⟩ := C0
  have hS : va_S A sx.heap sx.heap [] := va_S.rf
  have hl := lv_entry ([.ref bx, .int a1, .ref ao]) (n := 4) (Nat.le_of_ble_eq_true rfl)
  rw [lg_entry_eq]
  generalize (lg_sl ([.ref bx, .int a1, .ref ao]) ++ List.replicate (4 - (lg_sl ([.ref bx, .int a1, .ref ao])).length) Slot.unset).toArray = ls at hl ⊢
  have hl : lv_has ls 4 [(0, .ref bx), (1, .int a1), (2, .ref ao)] := hl
  refine lv_aload_n hx hb d_L_read_0 rfl (lv_at hl 2 rfl) ?_
  refine lv_iconst (v := nI 0) hx hb d_L_read_1 (by decide) ?_
  refine lv_aload_n hx hb d_L_read_2 rfl (lv_at hl 0 rfl) ?_
  refine lv_iload_n hx hb d_L_read_3 rfl (lv_at hl 1 rfl) ?_
  refine y_callL (y_runV (As := [.int a1]) (rest := [.int (nI 0), .ref ao]) hx hb hml hown hM (gV (n := 1) hg tk_291 tk_292 tk_293 tk_1 tk_294 (by decide +kernel) ⟨Nat.le_of_ble_eq_true rfl, Nat.le_of_ble_eq_true rfl⟩) (va_recv hK hP (ci := 4) (q0 := 0) rfl (at_0W hws)) (y_preL hE hK hP hD hS hA) rfl rfl hl.1 rfl (lv_room (Nat.le_of_ble_eq_true rfl)) d_L_read_4 ⟨Nat.le_of_ble_eq_true rfl, Nat.le_of_ble_eq_true rfl⟩) hP hD hS hA (fun E w q ce H locs hp hlw hP hD hS hq1 hq2 hq3 => ?_) (fun v w H locs hp hlw hP hD hS => ?_)
  · skip
    have hlen : (w ++ [oC G ao f]).length = (ws ++ [oC G ao f]).length := by rw [List.length_append, List.length_append, hlw]
    rcases hpx E w hp with rfl | rfl
    · skip
      refine vx_catch (own := "WordShapesLaw") (name := "java/lang/IndexOutOfBoundsException") hown [] (⟨0, 9, 12, 24⟩ : ExceptionTableEntry) [(⟨0, 9, 15, 19⟩ : ExceptionTableEntry)] (htb.trans rfl) (fun z hz => by cases hz) (by decide) (by decide) (hg _ tk_290) (va_Nw.use rfl (nw_301 hE.1)) hq1 hq2 hq3 ?_
      refine lv_astore_n (lv' := [(3, .ref q), (0, .ref bx), (1, .int a1), (2, .ref ao)]) hx hb d_L_read_12 rfl hl (by decide) rfl (fun ls hl => ?_)
      refine lv_iconst (v := nI 1) hx hb d_L_read_13 (by decide) ?_
      exact yh_ret hx hb hrt hlocks (Nat.le_refl _) (Nat.le_refl _) (Or.inr ⟨_, w, hp, (by decide), rfl⟩) hlen hK hP hD hS d_L_read_14
    · skip
      refine vx_catch (own := "WordShapesLaw") (name := "java/lang/IllegalArgumentException") hown [(⟨0, 9, 12, 24⟩ : ExceptionTableEntry)] (⟨0, 9, 15, 19⟩ : ExceptionTableEntry) [] (htb.trans rfl) (fun z hz => by rcases (show z = (⟨0, 9, 12, 24⟩ : ExceptionTableEntry) by simpa using hz) with rfl <;> first | exact Or.inr ⟨by decide, "java/lang/IndexOutOfBoundsException", hg _ tk_290, hN.2.1⟩) (by decide) (by decide) (hg _ tk_265) (va_Nw.use rfl (nw_272 hE.1)) hq1 hq2 hq3 ?_
      refine lv_astore_n (lv' := [(3, .ref q), (0, .ref bx), (1, .int a1), (2, .ref ao)]) hx hb d_L_read_15 rfl hl (by decide) rfl (fun ls hl => ?_)
      refine lv_iconst (v := nI 2) hx hb d_L_read_16 (by decide) ?_
      exact yh_ret hx hb hrt hlocks (Nat.le_refl _) (Nat.le_refl _) (Or.inr ⟨_, w, hp, (by decide), rfl⟩) hlen hK hP hD hS d_L_read_17
  · skip
    obtain ⟨x, rfl⟩ := hpv v w hp
    refine W.eq (g2 := F0 mm 7 ls [.int x, .int (nI 0), .ref ao]) rfl ?_
    refine lv_i2l hx hb d_L_read_7 (v := x.toInt64) rfl ?_
    refine va_last hx hb hK hP hD hS w.length 3 (at_lastW _ _) rfl (vp_in_nI (by decide) (by decide)) d_L_read_8 (fun H locs hP hD hS => ?_)
    rw [set_lastW] at hP hD
    refine lv_goto (tgt := 18) hx hb d_L_read_9 (by decide) ?_
    refine lv_iconst (v := nI 0) hx hb d_L_read_18 (by decide) ?_
    exact yh_ret hx hb hrt hlocks (Nat.zero_le _) (Nat.zero_le _) (Or.inl ⟨x, w, _, hp, rfl, (by rw [nI_clamp (by decide)]; exact if_pos rfl), rfl⟩) (by rw [List.length_append, List.length_append, hlw]; rfl) hK hP hD hS d_L_read_19
set_option maxHeartbeats 4000000 in
set_option maxRecDepth 100000 in
theorem c_L_fault (l : Launch) (G : gl) (bx ao : Nat) (ws : va_W) (fs : List Value) (hws : ws[0]? = some (bx, .inr (4, fs))) (f : Nat → Int64) (a1 : Int32) (post : Option Value → va_W → Prop) (px : String → va_W → Prop) (hM : YC l G y_W_fault k_W_fault 2 (Option.some FieldType.int) 6 90 [.ref bx, .int a1] ws post px) (hpv : ∀ v w, post v w → ∃ x, v = some (.int x)) (hpx : ∀ E w, px E w → E = "java/lang/IndexOutOfBoundsException") : YH l G y_L_fault k_L_fault 4 [(0, 9, 12, 24)] 7 111 [.ref bx, .int a1, .ref ao] (ws ++ [oC G ao f]) (fun r w => (∃ x w1 f1, post (some (.int x)) w1 ∧ r = nI 0 ∧ f1 0 = x.toInt64 ∧ w = w1 ++ [oC G ao f1]) ∨ ∃ E w1, px E w1 ∧ r = xcN ["java/lang/IndexOutOfBoundsException"] E ∧ w = w1 ++ [oC G ao f]) := by
  refine yh_of (by decide) ?_
  intro pg ev sx mm bl mt cd A C0 hP hD
  obtain ⟨hx, hb, hrt, hml, hown, hg, hlocks, htb, hE, hK, hA, hN⟩ := C0
  have hS : va_S A sx.heap sx.heap [] := va_S.rf
  have hl := lv_entry ([.ref bx, .int a1, .ref ao]) (n := 4) (Nat.le_of_ble_eq_true rfl)
  rw [lg_entry_eq]
  generalize (lg_sl ([.ref bx, .int a1, .ref ao]) ++ List.replicate (4 - (lg_sl ([.ref bx, .int a1, .ref ao])).length) Slot.unset).toArray = ls at hl ⊢
  have hl : lv_has ls 4 [(0, .ref bx), (1, .int a1), (2, .ref ao)] := hl
  refine lv_aload_n hx hb d_L_fault_0 rfl (lv_at hl 2 rfl) ?_
  refine lv_iconst (v := nI 0) hx hb d_L_fault_1 (by decide) ?_
  refine lv_aload_n hx hb d_L_fault_2 rfl (lv_at hl 0 rfl) ?_
  refine lv_iload_n hx hb d_L_fault_3 rfl (lv_at hl 1 rfl) ?_
  refine y_callL (y_runV (As := [.int a1]) (rest := [.int (nI 0), .ref ao]) hx hb hml hown hM (gV (n := 1) hg tk_544 tk_545 tk_546 tk_1 tk_547 (by decide +kernel) ⟨Nat.le_of_ble_eq_true rfl, Nat.le_of_ble_eq_true rfl⟩) (va_recv hK hP (ci := 4) (q0 := 0) rfl (at_0W hws)) (y_preL hE hK hP hD hS hA) rfl rfl hl.1 rfl (lv_room (Nat.le_of_ble_eq_true rfl)) d_L_fault_4 ⟨Nat.le_of_ble_eq_true rfl, Nat.le_of_ble_eq_true rfl⟩) hP hD hS hA (fun E w q ce H locs hp hlw hP hD hS hq1 hq2 hq3 => ?_) (fun v w H locs hp hlw hP hD hS => ?_)
  · skip
    have hlen : (w ++ [oC G ao f]).length = (ws ++ [oC G ao f]).length := by rw [List.length_append, List.length_append, hlw]
    rcases hpx E w hp with rfl
    · skip
      refine vx_catch (own := "WordShapesLaw") (name := "java/lang/IndexOutOfBoundsException") hown [] (⟨0, 9, 12, 24⟩ : ExceptionTableEntry) [] (htb.trans rfl) (fun z hz => by cases hz) (by decide) (by decide) (hg _ tk_290) (va_Nw.use rfl (nw_301 hE.1)) hq1 hq2 hq3 ?_
      refine lv_astore_n (lv' := [(3, .ref q), (0, .ref bx), (1, .int a1), (2, .ref ao)]) hx hb d_L_fault_12 rfl hl (by decide) rfl (fun ls hl => ?_)
      refine lv_iconst (v := nI 1) hx hb d_L_fault_13 (by decide) ?_
      exact yh_ret hx hb hrt hlocks (Nat.le_refl _) (Nat.le_refl _) (Or.inr ⟨_, w, hp, (by decide), rfl⟩) hlen hK hP hD hS d_L_fault_14
  · skip
    obtain ⟨x, rfl⟩ := hpv v w hp
    refine W.eq (g2 := F0 mm 7 ls [.int x, .int (nI 0), .ref ao]) rfl ?_
    refine lv_i2l hx hb d_L_fault_7 (v := x.toInt64) rfl ?_
    refine va_last hx hb hK hP hD hS w.length 3 (at_lastW _ _) rfl (vp_in_nI (by decide) (by decide)) d_L_fault_8 (fun H locs hP hD hS => ?_)
    rw [set_lastW] at hP hD
    refine lv_goto (tgt := 15) hx hb d_L_fault_9 (by decide) ?_
    refine lv_iconst (v := nI 0) hx hb d_L_fault_15 (by decide) ?_
    exact yh_ret hx hb hrt hlocks (Nat.zero_le _) (Nat.zero_le _) (Or.inl ⟨x, w, _, hp, rfl, (by rw [nI_clamp (by decide)]; exact if_pos rfl), rfl⟩) (by rw [List.length_append, List.length_append, hlw]; rfl) hK hP hD hS d_L_fault_16
set_option maxHeartbeats 4000000 in
set_option maxRecDepth 100000 in
theorem c_L_write (l : Launch) (G : gl) (bx ao : Nat) (ws : va_W) (fs : List Value) (hws : ws[0]? = some (bx, .inr (4, fs))) (f : Nat → Int64) (a1 : Int32) (post : Option Value → va_W → Prop) (px : String → va_W → Prop) (hM : YC l G y_W_write k_W_write 3 (Option.some FieldType.int) 8 174 [.ref bx, .int a1] ws post px) (hpv : ∀ v w, post v w → ∃ x, v = some (.int x)) (hpx : ∀ E w, px E w → E = "java/lang/IndexOutOfBoundsException" ∨ E = "java/lang/IllegalStateException" ∨ E = "java/lang/UnsupportedOperationException") : YH l G y_L_write k_L_write 4 [(0, 9, 12, 24), (0, 9, 15, 13), (0, 9, 18, 32)] 9 196 [.ref bx, .int a1, .ref ao] (ws ++ [oC G ao f]) (fun r w => (∃ x w1 f1, post (some (.int x)) w1 ∧ r = nI 0 ∧ f1 0 = x.toInt64 ∧ w = w1 ++ [oC G ao f1]) ∨ ∃ E w1, px E w1 ∧ r = xcN ["java/lang/IndexOutOfBoundsException", "java/lang/IllegalStateException", "java/lang/UnsupportedOperationException"] E ∧ w = w1 ++ [oC G ao f]) := by
  refine yh_of (by decide) ?_
  intro pg ev sx mm bl mt cd A C0 hP hD
  obtain ⟨hx, hb, hrt, hml, hown, hg, hlocks, htb, hE, hK, hA, hN⟩ := C0
  have hS : va_S A sx.heap sx.heap [] := va_S.rf
  have hl := lv_entry ([.ref bx, .int a1, .ref ao]) (n := 4) (Nat.le_of_ble_eq_true rfl)
  rw [lg_entry_eq]
  generalize (lg_sl ([.ref bx, .int a1, .ref ao]) ++ List.replicate (4 - (lg_sl ([.ref bx, .int a1, .ref ao])).length) Slot.unset).toArray = ls at hl ⊢
  have hl : lv_has ls 4 [(0, .ref bx), (1, .int a1), (2, .ref ao)] := hl
  refine lv_aload_n hx hb d_L_write_0 rfl (lv_at hl 2 rfl) ?_
  refine lv_iconst (v := nI 0) hx hb d_L_write_1 (by decide) ?_
  refine lv_aload_n hx hb d_L_write_2 rfl (lv_at hl 0 rfl) ?_
  refine lv_iload_n hx hb d_L_write_3 rfl (lv_at hl 1 rfl) ?_
  refine y_callL (y_runV (As := [.int a1]) (rest := [.int (nI 0), .ref ao]) hx hb hml hown hM (gV (n := 1) hg tk_553 tk_554 tk_555 tk_1 tk_556 (by decide +kernel) ⟨Nat.le_of_ble_eq_true rfl, Nat.le_of_ble_eq_true rfl⟩) (va_recv hK hP (ci := 4) (q0 := 0) rfl (at_0W hws)) (y_preL hE hK hP hD hS hA) rfl rfl hl.1 rfl (lv_room (Nat.le_of_ble_eq_true rfl)) d_L_write_4 ⟨Nat.le_of_ble_eq_true rfl, Nat.le_of_ble_eq_true rfl⟩) hP hD hS hA (fun E w q ce H locs hp hlw hP hD hS hq1 hq2 hq3 => ?_) (fun v w H locs hp hlw hP hD hS => ?_)
  · skip
    have hlen : (w ++ [oC G ao f]).length = (ws ++ [oC G ao f]).length := by rw [List.length_append, List.length_append, hlw]
    rcases hpx E w hp with rfl | rfl | rfl
    · skip
      refine vx_catch (own := "WordShapesLaw") (name := "java/lang/IndexOutOfBoundsException") hown [] (⟨0, 9, 12, 24⟩ : ExceptionTableEntry) [(⟨0, 9, 15, 13⟩ : ExceptionTableEntry), (⟨0, 9, 18, 32⟩ : ExceptionTableEntry)] (htb.trans rfl) (fun z hz => by cases hz) (by decide) (by decide) (hg _ tk_290) (va_Nw.use rfl (nw_301 hE.1)) hq1 hq2 hq3 ?_
      refine lv_astore_n (lv' := [(3, .ref q), (0, .ref bx), (1, .int a1), (2, .ref ao)]) hx hb d_L_write_12 rfl hl (by decide) rfl (fun ls hl => ?_)
      refine lv_iconst (v := nI 1) hx hb d_L_write_13 (by decide) ?_
      exact yh_ret hx hb hrt hlocks (Nat.le_refl _) (Nat.le_refl _) (Or.inr ⟨_, w, hp, (by decide), rfl⟩) hlen hK hP hD hS d_L_write_14
    · skip
      refine vx_catch (own := "WordShapesLaw") (name := "java/lang/IllegalStateException") hown [(⟨0, 9, 12, 24⟩ : ExceptionTableEntry)] (⟨0, 9, 15, 13⟩ : ExceptionTableEntry) [(⟨0, 9, 18, 32⟩ : ExceptionTableEntry)] (htb.trans rfl) (fun z hz => by rcases (show z = (⟨0, 9, 12, 24⟩ : ExceptionTableEntry) by simpa using hz) with rfl <;> first | exact Or.inr ⟨by decide, "java/lang/IndexOutOfBoundsException", hg _ tk_290, hN.2.2.1⟩) (by decide) (by decide) (hg _ tk_184) (va_Nw.use rfl (nw_192 hE.1)) hq1 hq2 hq3 ?_
      refine lv_astore_n (lv' := [(3, .ref q), (0, .ref bx), (1, .int a1), (2, .ref ao)]) hx hb d_L_write_15 rfl hl (by decide) rfl (fun ls hl => ?_)
      refine lv_iconst (v := nI 2) hx hb d_L_write_16 (by decide) ?_
      exact yh_ret hx hb hrt hlocks (Nat.le_refl _) (Nat.le_refl _) (Or.inr ⟨_, w, hp, (by decide), rfl⟩) hlen hK hP hD hS d_L_write_17
    · skip
      refine vx_catch (own := "WordShapesLaw") (name := "java/lang/UnsupportedOperationException") hown [(⟨0, 9, 12, 24⟩ : ExceptionTableEntry), (⟨0, 9, 15, 13⟩ : ExceptionTableEntry)] (⟨0, 9, 18, 32⟩ : ExceptionTableEntry) [] (htb.trans rfl) (fun z hz => by rcases (show z = (⟨0, 9, 12, 24⟩ : ExceptionTableEntry) ∨ z = (⟨0, 9, 15, 13⟩ : ExceptionTableEntry) by simpa using hz) with rfl | rfl <;> first | exact Or.inr ⟨by decide, "java/lang/IndexOutOfBoundsException", hg _ tk_290, hN.2.2.2.1⟩ | exact Or.inr ⟨by decide, "java/lang/IllegalStateException", hg _ tk_184, hN.2.2.2.2⟩) (by decide) (by decide) (hg _ tk_552) (va_Nw.use rfl (nw_615 hE.1)) hq1 hq2 hq3 ?_
      refine lv_astore_n (lv' := [(3, .ref q), (0, .ref bx), (1, .int a1), (2, .ref ao)]) hx hb d_L_write_18 rfl hl (by decide) rfl (fun ls hl => ?_)
      refine lv_iconst (v := nI 3) hx hb d_L_write_19 (by decide) ?_
      exact yh_ret hx hb hrt hlocks (Nat.le_refl _) (Nat.le_refl _) (Or.inr ⟨_, w, hp, (by decide), rfl⟩) hlen hK hP hD hS d_L_write_20
  · skip
    obtain ⟨x, rfl⟩ := hpv v w hp
    refine W.eq (g2 := F0 mm 7 ls [.int x, .int (nI 0), .ref ao]) rfl ?_
    refine lv_i2l hx hb d_L_write_7 (v := x.toInt64) rfl ?_
    refine va_last hx hb hK hP hD hS w.length 3 (at_lastW _ _) rfl (vp_in_nI (by decide) (by decide)) d_L_write_8 (fun H locs hP hD hS => ?_)
    rw [set_lastW] at hP hD
    refine lv_goto (tgt := 21) hx hb d_L_write_9 (by decide) ?_
    refine lv_iconst (v := nI 0) hx hb d_L_write_21 (by decide) ?_
    exact yh_ret hx hb hrt hlocks (Nat.zero_le _) (Nat.zero_le _) (Or.inl ⟨x, w, _, hp, rfl, (by rw [nI_clamp (by decide)]; exact if_pos rfl), rfl⟩) (by rw [List.length_append, List.length_append, hlw]; rfl) hK hP hD hS d_L_write_22
set_option maxHeartbeats 4000000 in
set_option maxRecDepth 100000 in
theorem c_L_same (l : Launch) (G : gl) (bx ao : Nat) (ws : va_W) (fs : List Value) (hws : ws[0]? = some (bx, .inr (4, fs))) (f : Nat → Int64) (a1 : Int32) (a2 : Int32) (post : Option Value → va_W → Prop) (px : String → va_W → Prop) (hM : YC l G y_W_same k_W_same 5 (Option.some FieldType.boolean) 7 111 [.ref bx, .int a1, .int a2] ws post px) (hpv : ∀ v w, post v w → ∃ x, v = some (.int x)) (hpx : ∀ E w, px E w → E = "java/lang/IndexOutOfBoundsException") : YH l G y_L_same k_L_same 5 [(0, 17, 20, 24)] 8 135 [.ref bx, .int a1, .int a2, .ref ao] (ws ++ [oC G ao f]) (fun r w => (∃ x w1 f1, post (some (.int x)) w1 ∧ r = nI 0 ∧ f1 0 = (if x = 0 then lN 0 else lN 1) ∧ w = w1 ++ [oC G ao f1]) ∨ ∃ E w1, px E w1 ∧ r = xcN ["java/lang/IndexOutOfBoundsException"] E ∧ w = w1 ++ [oC G ao f]) := by
  refine yh_of (by decide) ?_
  intro pg ev sx mm bl mt cd A C0 hP hD
  obtain ⟨hx, hb, hrt, hml, hown, hg, hlocks, htb, hE, hK, hA, hN⟩ := C0
  have hS : va_S A sx.heap sx.heap [] := va_S.rf
  have hl := lv_entry ([.ref bx, .int a1, .int a2, .ref ao]) (n := 5) (Nat.le_of_ble_eq_true rfl)
  rw [lg_entry_eq]
  generalize (lg_sl ([.ref bx, .int a1, .int a2, .ref ao]) ++ List.replicate (5 - (lg_sl ([.ref bx, .int a1, .int a2, .ref ao])).length) Slot.unset).toArray = ls at hl ⊢
  have hl : lv_has ls 5 [(0, .ref bx), (1, .int a1), (2, .int a2), (3, .ref ao)] := hl
  refine lv_aload_n hx hb d_L_same_0 rfl (lv_at hl 3 rfl) ?_
  refine lv_iconst (v := nI 0) hx hb d_L_same_1 (by decide) ?_
  refine lv_aload_n hx hb d_L_same_2 rfl (lv_at hl 0 rfl) ?_
  refine lv_iload_n hx hb d_L_same_3 rfl (lv_at hl 1 rfl) ?_
  refine lv_iload_n hx hb d_L_same_4 rfl (lv_at hl 2 rfl) ?_
  refine y_callL (y_runV (As := [.int a1, .int a2]) (rest := [.int (nI 0), .ref ao]) hx hb hml hown hM (gV (n := 2) hg tk_632 tk_633 tk_634 tk_1 tk_635 (by decide +kernel) ⟨Nat.le_of_ble_eq_true rfl, Nat.le_of_ble_eq_true rfl⟩) (va_recv hK hP (ci := 4) (q0 := 0) rfl (at_0W hws)) (y_preL hE hK hP hD hS hA) rfl rfl hl.1 rfl (lv_room (Nat.le_of_ble_eq_true rfl)) d_L_same_5 ⟨Nat.le_of_ble_eq_true rfl, Nat.le_of_ble_eq_true rfl⟩) hP hD hS hA (fun E w q ce H locs hp hlw hP hD hS hq1 hq2 hq3 => ?_) (fun v w H locs hp hlw hP hD hS => ?_)
  · skip
    have hlen : (w ++ [oC G ao f]).length = (ws ++ [oC G ao f]).length := by rw [List.length_append, List.length_append, hlw]
    rcases hpx E w hp with rfl
    · skip
      refine vx_catch (own := "WordShapesLaw") (name := "java/lang/IndexOutOfBoundsException") hown [] (⟨0, 17, 20, 24⟩ : ExceptionTableEntry) [] (htb.trans rfl) (fun z hz => by cases hz) (by decide) (by decide) (hg _ tk_290) (va_Nw.use rfl (nw_301 hE.1)) hq1 hq2 hq3 ?_
      refine lv_astore (lv' := [(4, .ref q), (0, .ref bx), (1, .int a1), (2, .int a2), (3, .ref ao)]) hx hb d_L_same_20 hl (by decide) rfl (fun ls hl => ?_)
      refine lv_iconst (v := nI 1) hx hb d_L_same_22 (by decide) ?_
      exact yh_ret hx hb hrt hlocks (Nat.le_refl _) (Nat.le_refl _) (Or.inr ⟨_, w, hp, (by decide), rfl⟩) hlen hK hP hD hS d_L_same_23
  · skip
    obtain ⟨x, rfl⟩ := hpv v w hp
    refine W.eq (g2 := F0 mm 8 ls [.int x, .int (nI 0), .ref ao]) rfl ?_
    refine lv_if_eq (tgt := 15) hx hb d_L_same_8 (by decide) (fun c8 => ?_) (fun c8 => ?_)
    · skip
      refine lv_lconst (v := lN 0) hx hb d_L_same_15 (by decide) ?_
      refine va_last hx hb hK hP hD hS w.length 3 (at_lastW _ _) rfl (vp_in_nI (by decide) (by decide)) d_L_same_16 (fun H locs hP hD hS => ?_)
      rw [set_lastW] at hP hD
      refine lv_goto (tgt := 24) hx hb d_L_same_17 (by decide) ?_
      refine lv_iconst (v := nI 0) hx hb d_L_same_24 (by decide) ?_
      exact yh_ret hx hb hrt hlocks (Nat.zero_le _) (Nat.zero_le _) (Or.inl ⟨x, w, _, hp, rfl, (by rw [nI_clamp (by decide)]; rw [if_pos c8]; exact if_pos rfl), rfl⟩) (by rw [List.length_append, List.length_append, hlw]; rfl) hK hP hD hS d_L_same_25
    · skip
      refine lv_lconst (v := lN 1) hx hb d_L_same_11 (by decide) ?_
      refine lv_goto (tgt := 16) hx hb d_L_same_12 (by decide) ?_
      refine va_last hx hb hK hP hD hS w.length 3 (at_lastW _ _) rfl (vp_in_nI (by decide) (by decide)) d_L_same_16 (fun H locs hP hD hS => ?_)
      rw [set_lastW] at hP hD
      refine lv_goto (tgt := 24) hx hb d_L_same_17 (by decide) ?_
      refine lv_iconst (v := nI 0) hx hb d_L_same_24 (by decide) ?_
      exact yh_ret hx hb hrt hlocks (Nat.zero_le _) (Nat.zero_le _) (Or.inl ⟨x, w, _, hp, rfl, (by rw [nI_clamp (by decide)]; rw [if_neg c8]; exact if_pos rfl), rfl⟩) (by rw [List.length_append, List.length_append, hlw]; rfl) hK hP hD hS d_L_same_25
set_option maxHeartbeats 4000000 in
set_option maxRecDepth 100000 in
theorem c_L_plan (l : Launch) (G : gl) (bx ao : Nat) (ws : va_W) (fs : List Value) (hws : ws[0]? = some (bx, .inr (4, fs))) (f : Nat → Int64) (a1 : Int32) (a2 : Int32) (post : Option Value → va_W → Prop) (px : String → va_W → Prop) (hM : YC l G y_W_plan k_W_plan 4 (Option.some FieldType.int) 7 111 [.ref bx, .int a1, .int a2] ws post px) (hpv : ∀ v w, post v w → ∃ x, v = some (.int x)) (hpx : ∀ E w, px E w → E = "java/lang/IndexOutOfBoundsException") : YH l G y_L_plan k_L_plan 5 [(0, 10, 13, 24)] 8 134 [.ref bx, .int a1, .int a2, .ref ao] (ws ++ [oC G ao f]) (fun r w => (∃ x w1 f1, post (some (.int x)) w1 ∧ r = nI 0 ∧ f1 0 = x.toInt64 ∧ w = w1 ++ [oC G ao f1]) ∨ ∃ E w1, px E w1 ∧ r = xcN ["java/lang/IndexOutOfBoundsException"] E ∧ w = w1 ++ [oC G ao f]) := by
  refine yh_of (by decide) ?_
  intro pg ev sx mm bl mt cd A C0 hP hD
  obtain ⟨hx, hb, hrt, hml, hown, hg, hlocks, htb, hE, hK, hA, hN⟩ := C0
  have hS : va_S A sx.heap sx.heap [] := va_S.rf
  have hl := lv_entry ([.ref bx, .int a1, .int a2, .ref ao]) (n := 5) (Nat.le_of_ble_eq_true rfl)
  rw [lg_entry_eq]
  generalize (lg_sl ([.ref bx, .int a1, .int a2, .ref ao]) ++ List.replicate (5 - (lg_sl ([.ref bx, .int a1, .int a2, .ref ao])).length) Slot.unset).toArray = ls at hl ⊢
  have hl : lv_has ls 5 [(0, .ref bx), (1, .int a1), (2, .int a2), (3, .ref ao)] := hl
  refine lv_aload_n hx hb d_L_plan_0 rfl (lv_at hl 3 rfl) ?_
  refine lv_iconst (v := nI 0) hx hb d_L_plan_1 (by decide) ?_
  refine lv_aload_n hx hb d_L_plan_2 rfl (lv_at hl 0 rfl) ?_
  refine lv_iload_n hx hb d_L_plan_3 rfl (lv_at hl 1 rfl) ?_
  refine lv_iload_n hx hb d_L_plan_4 rfl (lv_at hl 2 rfl) ?_
  refine y_callL (y_runV (As := [.int a1, .int a2]) (rest := [.int (nI 0), .ref ao]) hx hb hml hown hM (gV (n := 2) hg tk_643 tk_644 tk_645 tk_1 tk_646 (by decide +kernel) ⟨Nat.le_of_ble_eq_true rfl, Nat.le_of_ble_eq_true rfl⟩) (va_recv hK hP (ci := 4) (q0 := 0) rfl (at_0W hws)) (y_preL hE hK hP hD hS hA) rfl rfl hl.1 rfl (lv_room (Nat.le_of_ble_eq_true rfl)) d_L_plan_5 ⟨Nat.le_of_ble_eq_true rfl, Nat.le_of_ble_eq_true rfl⟩) hP hD hS hA (fun E w q ce H locs hp hlw hP hD hS hq1 hq2 hq3 => ?_) (fun v w H locs hp hlw hP hD hS => ?_)
  · skip
    have hlen : (w ++ [oC G ao f]).length = (ws ++ [oC G ao f]).length := by rw [List.length_append, List.length_append, hlw]
    rcases hpx E w hp with rfl
    · skip
      refine vx_catch (own := "WordShapesLaw") (name := "java/lang/IndexOutOfBoundsException") hown [] (⟨0, 10, 13, 24⟩ : ExceptionTableEntry) [] (htb.trans rfl) (fun z hz => by cases hz) (by decide) (by decide) (hg _ tk_290) (va_Nw.use rfl (nw_301 hE.1)) hq1 hq2 hq3 ?_
      refine lv_astore (lv' := [(4, .ref q), (0, .ref bx), (1, .int a1), (2, .int a2), (3, .ref ao)]) hx hb d_L_plan_13 hl (by decide) rfl (fun ls hl => ?_)
      refine lv_iconst (v := nI 1) hx hb d_L_plan_15 (by decide) ?_
      exact yh_ret hx hb hrt hlocks (Nat.le_refl _) (Nat.le_refl _) (Or.inr ⟨_, w, hp, (by decide), rfl⟩) hlen hK hP hD hS d_L_plan_16
  · skip
    obtain ⟨x, rfl⟩ := hpv v w hp
    refine W.eq (g2 := F0 mm 8 ls [.int x, .int (nI 0), .ref ao]) rfl ?_
    refine lv_i2l hx hb d_L_plan_8 (v := x.toInt64) rfl ?_
    refine va_last hx hb hK hP hD hS w.length 3 (at_lastW _ _) rfl (vp_in_nI (by decide) (by decide)) d_L_plan_9 (fun H locs hP hD hS => ?_)
    rw [set_lastW] at hP hD
    refine lv_goto (tgt := 17) hx hb d_L_plan_10 (by decide) ?_
    refine lv_iconst (v := nI 0) hx hb d_L_plan_17 (by decide) ?_
    exact yh_ret hx hb hrt hlocks (Nat.zero_le _) (Nat.zero_le _) (Or.inl ⟨x, w, _, hp, rfl, (by rw [nI_clamp (by decide)]; exact if_pos rfl), rfl⟩) (by rw [List.length_append, List.length_append, hlw]; rfl) hK hP hD hS d_L_plan_18
set_option maxHeartbeats 4000000 in
set_option maxRecDepth 100000 in
theorem c_L_ordinate (l : Launch) (G : gl) (bx ao : Nat) (ws : va_W) (fs : List Value) (hws : ws[0]? = some (bx, .inr (4, fs))) (f : Nat → Int64) (a1 : Int32) (a2 : Int32) (a3 : Int32) (post : Option Value → va_W → Prop) (px : String → va_W → Prop) (hM : YC l G y_W_ordinate k_W_ordinate 5 (Option.some FieldType.int) 7 111 [.ref bx, .int a1, .int a2, .int a3] ws post px) (hpv : ∀ v w, post v w → ∃ x, v = some (.int x)) (hpx : ∀ E w, px E w → E = "java/lang/IndexOutOfBoundsException") : YH l G y_L_ordinate k_L_ordinate 6 [(0, 12, 15, 24)] 8 135 [.ref bx, .int a1, .int a2, .int a3, .ref ao] (ws ++ [oC G ao f]) (fun r w => (∃ x w1 f1, post (some (.int x)) w1 ∧ r = nI 0 ∧ f1 0 = x.toInt64 ∧ w = w1 ++ [oC G ao f1]) ∨ ∃ E w1, px E w1 ∧ r = xcN ["java/lang/IndexOutOfBoundsException"] E ∧ w = w1 ++ [oC G ao f]) := by
  refine yh_of (by decide) ?_
  intro pg ev sx mm bl mt cd A C0 hP hD
  obtain ⟨hx, hb, hrt, hml, hown, hg, hlocks, htb, hE, hK, hA, hN⟩ := C0
  have hS : va_S A sx.heap sx.heap [] := va_S.rf
  have hl := lv_entry ([.ref bx, .int a1, .int a2, .int a3, .ref ao]) (n := 6) (Nat.le_of_ble_eq_true rfl)
  rw [lg_entry_eq]
  generalize (lg_sl ([.ref bx, .int a1, .int a2, .int a3, .ref ao]) ++ List.replicate (6 - (lg_sl ([.ref bx, .int a1, .int a2, .int a3, .ref ao])).length) Slot.unset).toArray = ls at hl ⊢
  have hl : lv_has ls 6 [(0, .ref bx), (1, .int a1), (2, .int a2), (3, .int a3), (4, .ref ao)] := hl
  refine lv_aload hx hb d_L_ordinate_0 (lv_at hl 4 rfl) ?_
  refine lv_iconst (v := nI 0) hx hb d_L_ordinate_2 (by decide) ?_
  refine lv_aload_n hx hb d_L_ordinate_3 rfl (lv_at hl 0 rfl) ?_
  refine lv_iload_n hx hb d_L_ordinate_4 rfl (lv_at hl 1 rfl) ?_
  refine lv_iload_n hx hb d_L_ordinate_5 rfl (lv_at hl 2 rfl) ?_
  refine lv_iload_n hx hb d_L_ordinate_6 rfl (lv_at hl 3 rfl) ?_
  refine y_callL (y_runV (As := [.int a1, .int a2, .int a3]) (rest := [.int (nI 0), .ref ao]) hx hb hml hown hM (gV (n := 3) hg tk_651 tk_652 tk_653 tk_1 tk_654 (by decide +kernel) ⟨Nat.le_of_ble_eq_true rfl, Nat.le_of_ble_eq_true rfl⟩) (va_recv hK hP (ci := 4) (q0 := 0) rfl (at_0W hws)) (y_preL hE hK hP hD hS hA) rfl rfl hl.1 rfl (lv_room (Nat.le_of_ble_eq_true rfl)) d_L_ordinate_7 ⟨Nat.le_of_ble_eq_true rfl, Nat.le_of_ble_eq_true rfl⟩) hP hD hS hA (fun E w q ce H locs hp hlw hP hD hS hq1 hq2 hq3 => ?_) (fun v w H locs hp hlw hP hD hS => ?_)
  · skip
    have hlen : (w ++ [oC G ao f]).length = (ws ++ [oC G ao f]).length := by rw [List.length_append, List.length_append, hlw]
    rcases hpx E w hp with rfl
    · skip
      refine vx_catch (own := "WordShapesLaw") (name := "java/lang/IndexOutOfBoundsException") hown [] (⟨0, 12, 15, 24⟩ : ExceptionTableEntry) [] (htb.trans rfl) (fun z hz => by cases hz) (by decide) (by decide) (hg _ tk_290) (va_Nw.use rfl (nw_301 hE.1)) hq1 hq2 hq3 ?_
      refine lv_astore (lv' := [(5, .ref q), (0, .ref bx), (1, .int a1), (2, .int a2), (3, .int a3), (4, .ref ao)]) hx hb d_L_ordinate_15 hl (by decide) rfl (fun ls hl => ?_)
      refine lv_iconst (v := nI 1) hx hb d_L_ordinate_17 (by decide) ?_
      exact yh_ret hx hb hrt hlocks (Nat.le_refl _) (Nat.le_refl _) (Or.inr ⟨_, w, hp, (by decide), rfl⟩) hlen hK hP hD hS d_L_ordinate_18
  · skip
    obtain ⟨x, rfl⟩ := hpv v w hp
    refine W.eq (g2 := F0 mm 10 ls [.int x, .int (nI 0), .ref ao]) rfl ?_
    refine lv_i2l hx hb d_L_ordinate_10 (v := x.toInt64) rfl ?_
    refine va_last hx hb hK hP hD hS w.length 3 (at_lastW _ _) rfl (vp_in_nI (by decide) (by decide)) d_L_ordinate_11 (fun H locs hP hD hS => ?_)
    rw [set_lastW] at hP hD
    refine lv_goto (tgt := 19) hx hb d_L_ordinate_12 (by decide) ?_
    refine lv_iconst (v := nI 0) hx hb d_L_ordinate_19 (by decide) ?_
    exact yh_ret hx hb hrt hlocks (Nat.zero_le _) (Nat.zero_le _) (Or.inl ⟨x, w, _, hp, rfl, (by rw [nI_clamp (by decide)]; exact if_pos rfl), rfl⟩) (by rw [List.length_append, List.length_append, hlw]; rfl) hK hP hD hS d_L_ordinate_20
set_option maxHeartbeats 4000000 in
set_option maxRecDepth 100000 in
theorem c_L_byteAt (l : Launch) (G : gl) (bx ao : Nat) (ws : va_W) (fs : List Value) (hws : ws[0]? = some (bx, .inr (4, fs))) (f : Nat → Int64) (a1 : Int32) (post : Option Value → va_W → Prop) (px : String → va_W → Prop) (hM : YC l G y_W_byteAt k_W_byteAt 2 (Option.some FieldType.int) 6 90 [.ref bx, .int a1] ws post px) (hpv : ∀ v w, post v w → ∃ x, v = some (.int x)) (hpx : ∀ E w, px E w → E = "java/lang/IndexOutOfBoundsException") : YH l G y_L_byteAt k_L_byteAt 4 [(0, 9, 12, 24)] 7 111 [.ref bx, .int a1, .ref ao] (ws ++ [oC G ao f]) (fun r w => (∃ x w1 f1, post (some (.int x)) w1 ∧ r = nI 0 ∧ f1 0 = x.toInt64 ∧ w = w1 ++ [oC G ao f1]) ∨ ∃ E w1, px E w1 ∧ r = xcN ["java/lang/IndexOutOfBoundsException"] E ∧ w = w1 ++ [oC G ao f]) := by
  refine yh_of (by decide) ?_
  intro pg ev sx mm bl mt cd A C0 hP hD
  obtain ⟨hx, hb, hrt, hml, hown, hg, hlocks, htb, hE, hK, hA, hN⟩ := C0
  have hS : va_S A sx.heap sx.heap [] := va_S.rf
  have hl := lv_entry ([.ref bx, .int a1, .ref ao]) (n := 4) (Nat.le_of_ble_eq_true rfl)
  rw [lg_entry_eq]
  generalize (lg_sl ([.ref bx, .int a1, .ref ao]) ++ List.replicate (4 - (lg_sl ([.ref bx, .int a1, .ref ao])).length) Slot.unset).toArray = ls at hl ⊢
  have hl : lv_has ls 4 [(0, .ref bx), (1, .int a1), (2, .ref ao)] := hl
  refine lv_aload_n hx hb d_L_byteAt_0 rfl (lv_at hl 2 rfl) ?_
  refine lv_iconst (v := nI 0) hx hb d_L_byteAt_1 (by decide) ?_
  refine lv_aload_n hx hb d_L_byteAt_2 rfl (lv_at hl 0 rfl) ?_
  refine lv_iload_n hx hb d_L_byteAt_3 rfl (lv_at hl 1 rfl) ?_
  refine y_callL (y_runV (As := [.int a1]) (rest := [.int (nI 0), .ref ao]) hx hb hml hown hM (gV (n := 1) hg tk_661 tk_662 tk_663 tk_1 tk_664 (by decide +kernel) ⟨Nat.le_of_ble_eq_true rfl, Nat.le_of_ble_eq_true rfl⟩) (va_recv hK hP (ci := 4) (q0 := 0) rfl (at_0W hws)) (y_preL hE hK hP hD hS hA) rfl rfl hl.1 rfl (lv_room (Nat.le_of_ble_eq_true rfl)) d_L_byteAt_4 ⟨Nat.le_of_ble_eq_true rfl, Nat.le_of_ble_eq_true rfl⟩) hP hD hS hA (fun E w q ce H locs hp hlw hP hD hS hq1 hq2 hq3 => ?_) (fun v w H locs hp hlw hP hD hS => ?_)
  · skip
    have hlen : (w ++ [oC G ao f]).length = (ws ++ [oC G ao f]).length := by rw [List.length_append, List.length_append, hlw]
    rcases hpx E w hp with rfl
    · skip
      refine vx_catch (own := "WordShapesLaw") (name := "java/lang/IndexOutOfBoundsException") hown [] (⟨0, 9, 12, 24⟩ : ExceptionTableEntry) [] (htb.trans rfl) (fun z hz => by cases hz) (by decide) (by decide) (hg _ tk_290) (va_Nw.use rfl (nw_301 hE.1)) hq1 hq2 hq3 ?_
      refine lv_astore_n (lv' := [(3, .ref q), (0, .ref bx), (1, .int a1), (2, .ref ao)]) hx hb d_L_byteAt_12 rfl hl (by decide) rfl (fun ls hl => ?_)
      refine lv_iconst (v := nI 1) hx hb d_L_byteAt_13 (by decide) ?_
      exact yh_ret hx hb hrt hlocks (Nat.le_refl _) (Nat.le_refl _) (Or.inr ⟨_, w, hp, (by decide), rfl⟩) hlen hK hP hD hS d_L_byteAt_14
  · skip
    obtain ⟨x, rfl⟩ := hpv v w hp
    refine W.eq (g2 := F0 mm 7 ls [.int x, .int (nI 0), .ref ao]) rfl ?_
    refine lv_i2l hx hb d_L_byteAt_7 (v := x.toInt64) rfl ?_
    refine va_last hx hb hK hP hD hS w.length 3 (at_lastW _ _) rfl (vp_in_nI (by decide) (by decide)) d_L_byteAt_8 (fun H locs hP hD hS => ?_)
    rw [set_lastW] at hP hD
    refine lv_goto (tgt := 15) hx hb d_L_byteAt_9 (by decide) ?_
    refine lv_iconst (v := nI 0) hx hb d_L_byteAt_15 (by decide) ?_
    exact yh_ret hx hb hrt hlocks (Nat.zero_le _) (Nat.zero_le _) (Or.inl ⟨x, w, _, hp, rfl, (by rw [nI_clamp (by decide)]; exact if_pos rfl), rfl⟩) (by rw [List.length_append, List.length_append, hlw]; rfl) hK hP hD hS d_L_byteAt_16
set_option maxHeartbeats 4000000 in
set_option maxRecDepth 100000 in
theorem c_L_count (l : Launch) (G : gl) (bx ao : Nat) (ws : va_W) (fs : List Value) (hws : ws[0]? = some (bx, .inr (4, fs))) (f : Nat → Int64) (a1 : Int32) (a2 : Int32) (post : Option Value → va_W → Prop) (px : String → va_W → Prop) (hM : YC l G y_W_count k_W_count 4 (Option.some FieldType.int) 7 111 [.ref bx, .int a1, .int a2] ws post px) (hpv : ∀ v w, post v w → ∃ x, v = some (.int x)) (hpx : ∀ E w, px E w → E = "java/lang/IndexOutOfBoundsException") : YH l G y_L_count k_L_count 5 [(0, 10, 13, 24)] 8 134 [.ref bx, .int a1, .int a2, .ref ao] (ws ++ [oC G ao f]) (fun r w => (∃ x w1 f1, post (some (.int x)) w1 ∧ r = nI 0 ∧ f1 0 = x.toInt64 ∧ w = w1 ++ [oC G ao f1]) ∨ ∃ E w1, px E w1 ∧ r = xcN ["java/lang/IndexOutOfBoundsException"] E ∧ w = w1 ++ [oC G ao f]) := by
  refine yh_of (by decide) ?_
  intro pg ev sx mm bl mt cd A C0 hP hD
  obtain ⟨hx, hb, hrt, hml, hown, hg, hlocks, htb, hE, hK, hA, hN⟩ := C0
  have hS : va_S A sx.heap sx.heap [] := va_S.rf
  have hl := lv_entry ([.ref bx, .int a1, .int a2, .ref ao]) (n := 5) (Nat.le_of_ble_eq_true rfl)
  rw [lg_entry_eq]
  generalize (lg_sl ([.ref bx, .int a1, .int a2, .ref ao]) ++ List.replicate (5 - (lg_sl ([.ref bx, .int a1, .int a2, .ref ao])).length) Slot.unset).toArray = ls at hl ⊢
  have hl : lv_has ls 5 [(0, .ref bx), (1, .int a1), (2, .int a2), (3, .ref ao)] := hl
  refine lv_aload_n hx hb d_L_count_0 rfl (lv_at hl 3 rfl) ?_
  refine lv_iconst (v := nI 0) hx hb d_L_count_1 (by decide) ?_
  refine lv_aload_n hx hb d_L_count_2 rfl (lv_at hl 0 rfl) ?_
  refine lv_iload_n hx hb d_L_count_3 rfl (lv_at hl 1 rfl) ?_
  refine lv_iload_n hx hb d_L_count_4 rfl (lv_at hl 2 rfl) ?_
  refine y_callL (y_runV (As := [.int a1, .int a2]) (rest := [.int (nI 0), .ref ao]) hx hb hml hown hM (gV (n := 2) hg tk_669 tk_670 tk_671 tk_1 tk_672 (by decide +kernel) ⟨Nat.le_of_ble_eq_true rfl, Nat.le_of_ble_eq_true rfl⟩) (va_recv hK hP (ci := 4) (q0 := 0) rfl (at_0W hws)) (y_preL hE hK hP hD hS hA) rfl rfl hl.1 rfl (lv_room (Nat.le_of_ble_eq_true rfl)) d_L_count_5 ⟨Nat.le_of_ble_eq_true rfl, Nat.le_of_ble_eq_true rfl⟩) hP hD hS hA (fun E w q ce H locs hp hlw hP hD hS hq1 hq2 hq3 => ?_) (fun v w H locs hp hlw hP hD hS => ?_)
  · skip
    have hlen : (w ++ [oC G ao f]).length = (ws ++ [oC G ao f]).length := by rw [List.length_append, List.length_append, hlw]
    rcases hpx E w hp with rfl
    · skip
      refine vx_catch (own := "WordShapesLaw") (name := "java/lang/IndexOutOfBoundsException") hown [] (⟨0, 10, 13, 24⟩ : ExceptionTableEntry) [] (htb.trans rfl) (fun z hz => by cases hz) (by decide) (by decide) (hg _ tk_290) (va_Nw.use rfl (nw_301 hE.1)) hq1 hq2 hq3 ?_
      refine lv_astore (lv' := [(4, .ref q), (0, .ref bx), (1, .int a1), (2, .int a2), (3, .ref ao)]) hx hb d_L_count_13 hl (by decide) rfl (fun ls hl => ?_)
      refine lv_iconst (v := nI 1) hx hb d_L_count_15 (by decide) ?_
      exact yh_ret hx hb hrt hlocks (Nat.le_refl _) (Nat.le_refl _) (Or.inr ⟨_, w, hp, (by decide), rfl⟩) hlen hK hP hD hS d_L_count_16
  · skip
    obtain ⟨x, rfl⟩ := hpv v w hp
    refine W.eq (g2 := F0 mm 8 ls [.int x, .int (nI 0), .ref ao]) rfl ?_
    refine lv_i2l hx hb d_L_count_8 (v := x.toInt64) rfl ?_
    refine va_last hx hb hK hP hD hS w.length 3 (at_lastW _ _) rfl (vp_in_nI (by decide) (by decide)) d_L_count_9 (fun H locs hP hD hS => ?_)
    rw [set_lastW] at hP hD
    refine lv_goto (tgt := 17) hx hb d_L_count_10 (by decide) ?_
    refine lv_iconst (v := nI 0) hx hb d_L_count_17 (by decide) ?_
    exact yh_ret hx hb hrt hlocks (Nat.zero_le _) (Nat.zero_le _) (Or.inl ⟨x, w, _, hp, rfl, (by rw [nI_clamp (by decide)]; exact if_pos rfl), rfl⟩) (by rw [List.length_append, List.length_append, hlw]; rfl) hK hP hD hS d_L_count_18
