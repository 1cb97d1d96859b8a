set_option maxHeartbeats 4000000 in
set_option maxRecDepth 100000 in
theorem c_M_putAll (l : Launch) (G : gl) (h : Nat → Nat) (dg : Nat) (mp : Nat) (ml : Nat) (th : Nat) (n : Nat) (t : Nat → Nat) (pl : Nat → Int32) (pn : Nat → Nat) (xy : Nat → Int32) (pt : Nat → Nat) (sz : Nat) (rs : Nat → Nat) (ou : Nat → Nat) (sl : Nat) (p : Nat) (fk : Nat) (fp : Nat) (va : Int32) (oa : Nat → Int32) (oc : Nat → Int32) (ok : Nat → Int32) (os : List Nat) (s : Nat) (k : Nat) (c : Nat) (M0 : Nat) (tau : wSt) (hs4 : s < 4) (hk4 : k ≤ 4096) (hc4 : c ≤ 4096) (hdg : dg ≤ 3) (hos : os = []) (hP0 : PO dg k (fun i => pl (4096 * s + i)) c (fun j => xy (8192 * s + j)) tau M0 0 0 0 [] oc ok) : YC l G y_M_putAll k_M_putAll 10 (Option.none : Option FieldType) 3 72 [.ref (h 0), .int (nI s)] (wMW G h dg mp ml th n t pl pn xy pt sz rs ou sl p fk fp va oa oc ok os) (fun v w => (∃ oc9 ok9, (tau.1.length ≤ 500000) ∧ v = none ∧ w = wMW G h dg mp ml th n t pl pn xy pt sz rs ou sl p fk fp va oa oc9 ok9 tau.1)) (fun _ _ => False) := by
  refine yc_of (by decide) ?_
  intro pg ev sx mm bl mt cd A C0 hP hD
  obtain ⟨hx, hb, hrt, hml, hown, hg, hlocks, hxt, hE, hK, hA, hmn⟩ := C0
  have hS : va_S A sx.heap sx.heap [] := va_S.rf
  have hl := lv_entry ([.ref (h 0), .int (nI s)]) (n := 10) (Nat.le_of_ble_eq_true rfl)
  rw [lg_entry_eq]
  generalize (lg_sl ([.ref (h 0), .int (nI s)]) ++ List.replicate (10 - (lg_sl ([.ref (h 0), .int (nI s)])).length) Slot.unset).toArray = ls at hl ⊢
  have hl : lv_has ls 10 [(0, .ref (h 0)), (1, .int (nI s))] := hl
  obtain ⟨H, hH⟩ : ∃ H, H = sx.heap := ⟨_, rfl⟩
  rw [← hH] at hP
  have hS : va_S A sx.heap H [] := by rw [hH]; exact hS
  suffices h9 : W pg l ev (yR 3 72) sx mm _ bl mt cd H [] 0 0 (yMQ bl G A _ _ _ _ sx) (F0 mm 0 ls []) by rw [hH] at h9; exact h9
  obtain ⟨locs, hlo⟩ : ∃ locs : List Loc, locs = [] := ⟨_, rfl⟩
  rw [← hlo] at hS ⊢
  have J19 : ∀ (n9 : Nat) (M : Nat) (D : Nat) (nx : Nat) (py : Nat) (os1 : List Nat) (oc1 : Nat → Int32) (ok1 : Nat → Int32) (hm9 : M < n9) (hI : PO dg k (fun i => pl (4096 * s + i)) c (fun j => xy (8192 * s + j)) tau M D nx py os1 oc1 ok1) (hnx : nx ≤ k) (hpy : py ≤ c) (hlen : os1.length + 4 * D ≤ 60 * (nx + py) + 2) (H : Heap) (locs : List Loc) (ls : Array Slot), va_P (gD G) vwC (wMW G h dg mp ml th n t pl pn xy pt sz rs ou sl p fk fp va oa oc1 ok1 os1) H → va_D A (wMW G h dg mp ml th n t pl pn xy pt sz rs ou sl p fk fp va oa oc1 ok1 os1) → va_S A sx.heap H locs → lv_has ls 10 [(0, .ref (h 0)), (1, .int (nI s)), (2, .int (nI D)), (3, .int (nI (4096 * s + nx))), (4, .int (nI py))] → W pg l ev (yR 3 72) sx mm ([.ref (h 0), .int (nI s)] : List Value).toArray bl mt cd H locs 0 0 (yMQ bl G A (wMW G h dg mp ml th n t pl pn xy pt sz rs ou sl p fk fp va oa oc ok os).length (fun v w => (∃ oc9 ok9, (tau.1.length ≤ 500000) ∧ v = none ∧ w = wMW G h dg mp ml th n t pl pn xy pt sz rs ou sl p fk fp va oa oc9 ok9 tau.1)) (fun _ _ => False) ([.ref (h 0), .int (nI s)] : List Value).toArray sx) (F0 mm 19 ls []) := by
    intro n9
    induction n9 with
    | zero => intro M D nx py os1 oc1 ok1 hm9; exact absurd hm9 (Nat.not_lt_zero _)
    | succ n9 ih9 =>
      intro M D nx py os1 oc1 ok1 hm9 hI hnx hpy hlen H locs ls hP hD hS hl
      obtain ⟨K, kd, v, M, rfl, hK7, hKs, e1, hk1, hk7, hk3, e2, hv, hnk, hD52, hD50, p1, p2, p3, p4⟩ := po_it hI
      have hwl := wdL_len kd
      have hh : (hdT K kd).length ≤ 19 := by unfold hdT; split <;> simp only [List.length_append, List.length_singleton, List.length_nil] <;> omega
      have h8 : (wdL 8).length = 5 := rfl
      have J233 : ∀ (n9_233 : Nat) (M4 : Nat) (D4 : Nat) (nx4 : Nat) (py4 : Nat) (os4 : List Nat) (oc4 : Nat → Int32) (hm9_233 : D4 < n9_233) (hI4 : PI dg k (fun i => pl (4096 * s + i)) c (fun j => xy (8192 * s + j)) tau M4 D4 nx4 py4 os4 oc4 ok1) (hnx4 : nx4 ≤ k) (hpy4 : py4 ≤ c) (hlen4 : os4.length + 4 * D4 ≤ 60 * (nx4 + py4)) (hM4 : M4 ≤ M) (hD4 : D4 ≤ 52) (H : Heap) (locs : List Loc) (ls : Array Slot), va_P (gD G) vwC (wMW G h dg mp ml th n t pl pn xy pt sz rs ou sl p fk fp va oa oc4 ok1 os4) H → va_D A (wMW G h dg mp ml th n t pl pn xy pt sz rs ou sl p fk fp va oa oc4 ok1 os4) → va_S A sx.heap H locs → lv_has ls 10 [(0, .ref (h 0)), (1, .int (nI s)), (2, .int (nI D4)), (3, .int (nI (4096 * s + nx4))), (4, .int (nI py4)), (8, .int (nI 1))] → W pg l ev (yR 3 72) sx mm ([.ref (h 0), .int (nI s)] : List Value).toArray bl mt cd H locs 0 0 (yMQ bl G A (wMW G h dg mp ml th n t pl pn xy pt sz rs ou sl p fk fp va oa oc ok os).length (fun v w => (∃ oc9 ok9, (tau.1.length ≤ 500000) ∧ v = none ∧ w = wMW G h dg mp ml th n t pl pn xy pt sz rs ou sl p fk fp va oa oc9 ok9 tau.1)) (fun _ _ => False) ([.ref (h 0), .int (nI s)] : List Value).toArray sx) (F0 mm 233 ls []) := by
        intro n9_233
        induction n9_233 with
        | zero => intro M4 D4 nx4 py4 os4 oc4 hm9_233; exact absurd hm9_233 (Nat.not_lt_zero _)
        | succ n9_233 ih9_233 =>
          intro M4 D4 nx4 py4 os4 oc4 hm9_233 hI4 hnx4 hpy4 hlen4 hM4 hD4 H locs ls hP hD hS hl
          refine lv_iload_n hx hb d_M_putAll_233 rfl (lv_at hl 2 rfl) ?_
          refine yn_if_le (a := D4) (tgt := 291) hx hb d_M_putAll_234 (by decide) (by omega) (fun c234 => ?_) (fun c234 => ?_)
          · skip
            obtain rfl : D4 = 0 := by omega
            refine lv_iload hx hb d_M_putAll_291 (lv_at hl 5 rfl) ?_
            refine yn_if_ne (a := 1) (tgt := 300) hx hb d_M_putAll_293 (by decide) (by omega) (fun c293 => ?_) (fun c293 => ?_)
            · skip
              refine lv_iconst (v := nI 0) hx hb d_M_putAll_300 (by decide) ?_
              refine lv_istore (lv' := [(5, .int (nI 0)), (0, .ref (h 0)), (1, .int (nI s)), (2, .int (nI 0)), (3, .int (nI (4096 * s + nx4))), (4, .int (nI py4)), (8, .int (nI 1))]) hx hb d_M_putAll_301 hl (by decide) rfl (fun ls hl => ?_)
              refine lv_goto (tgt := 14) hx hb d_M_putAll_303 (by decide) ?_
              refine lv_iload hx hb d_M_putAll_14 (lv_at hl 0 rfl) ?_
              refine yn_if_eq (a := 0) (tgt := 306) hx hb d_M_putAll_16 (by decide) (by omega) (fun c16 => ?_) (fun c16 => ?_)
              · skip
                have htl : tau.1.length ≤ 500000 := by rw [pi_e hI4]; omega
                rw [← pi_e hI4] at hP hD
                have hP : va_P (gD G) vwC (wMW G h dg mp ml th n t pl pn xy pt sz rs ou sl p fk fp va oa oc4 ok1 tau.1) H := hP
                have hD : va_D A (wMW G h dg mp ml th n t pl pn xy pt sz rs ou sl p fk fp va oa oc4 ok1 tau.1) := hD
                exact yr_v (ws := wMW G h dg mp ml th n t pl pn xy pt sz rs ou sl p fk fp va oa oc4 ok1 tau.1) hx hb hrt hlocks (⟨_, _, htl, rfl, rfl⟩) rfl hK hP hD hS d_M_putAll_306
              · skip
                exact absurd c16 (by decide)
            · skip
              exact absurd c293 (by decide)
          · skip
            obtain ⟨z, rfl⟩ : ∃ y, D4 = y + 1 := ⟨D4 - 1, by omega⟩
            obtain ⟨b, hb16, eb, hb0, hb1⟩ := pi_s hI4
            refine lv_aload_n hx hb d_M_putAll_237 rfl (lv_at hl 0 rfl) ?_
            refine va_get (D := gD G) (ci := 5) (v := .ref (h 11)) (C := "WordShapesModel") (T := TM) (N := 24) hx hb hg iw_M hown hK hP 0 rfl rfl 22 (by decide) (hg _ tk_705) (fun _ h9 => h9) rfl d_M_putAll_238 ?_
            refine lv_iload_n hx hb d_M_putAll_241 rfl (lv_at hl 2 rfl) ?_
            refine lv_iconst (v := nI 1) hx hb d_M_putAll_242 (by decide) ?_
            refine lv_isub hx hb d_M_putAll_243 ?_
            refine y_eqi (y := nI z) ((pk_sub (by omega)).trans (congrArg nI (by omega))) ?_
            refine lv_dup2_11 hx hb d_M_putAll_244 rfl rfl ?_
            refine yn_iald hx hb hK hP 11 0 rfl rfl (j := z) (x := nI (b + 1)) (eb) (by omega) (by omega) d_M_putAll_245 ?_
            refine lv_iconst (v := nI 1) hx hb d_M_putAll_246 (by decide) ?_
            refine lv_isub hx hb d_M_putAll_247 ?_
            refine y_eqi (y := nI b) ((pk_sub (by omega)).trans (congrArg nI (by omega))) ?_
            refine yn_iast hx hb hK hP hD hS 11 0 rfl rfl (j := z) (x := nI b) (f1 := upd oc4 z (nI b)) (rfl) (by omega) (by omega) d_M_putAll_248 (fun H locs hP hD hS => ?_)
            have hP : va_P (gD G) vwC (wMW G h dg mp ml th n t pl pn xy pt sz rs ou sl p fk fp va oa (upd oc4 z (nI b)) ok1 os4) H := hP
            have hD : va_D A (wMW G h dg mp ml th n t pl pn xy pt sz rs ou sl p fk fp va oa (upd oc4 z (nI b)) ok1 os4) := hD
            refine lv_aload_n hx hb d_M_putAll_249 rfl (lv_at hl 0 rfl) ?_
            refine va_get (D := gD G) (ci := 5) (v := .ref (h 11)) (C := "WordShapesModel") (T := TM) (N := 24) hx hb hg iw_M hown hK hP 0 rfl rfl 22 (by decide) (hg _ tk_705) (fun _ h9 => h9) rfl d_M_putAll_250 ?_
            refine lv_iload_n hx hb d_M_putAll_253 rfl (lv_at hl 2 rfl) ?_
            refine lv_iconst (v := nI 1) hx hb d_M_putAll_254 (by decide) ?_
            refine lv_isub hx hb d_M_putAll_255 ?_
            refine y_eqi (y := nI z) ((pk_sub (by omega)).trans (congrArg nI (by omega))) ?_
            refine yn_iald hx hb hK hP 11 0 rfl rfl (j := z) (x := nI b) (upd_s _ _ _) (by omega) (by omega) d_M_putAll_256 ?_
            refine yn_if_ne (a := b) (tgt := 264) hx hb d_M_putAll_257 (by decide) (by omega) (fun c257 => ?_) (fun c257 => ?_)
            · skip
              refine lv_iconst (v := nI 0) hx hb d_M_putAll_264 (by decide) ?_
              refine lv_istore (lv' := [(8, .int (nI 0)), (0, .ref (h 0)), (1, .int (nI s)), (2, .int (nI (z + 1))), (3, .int (nI (4096 * s + nx4))), (4, .int (nI py4))]) hx hb d_M_putAll_265 hl (by decide) rfl (fun ls hl => ?_)
              refine lv_iload hx hb d_M_putAll_267 (lv_at hl 0 rfl) ?_
              refine yn_if_eq (a := 0) (tgt := 284) hx hb d_M_putAll_269 (by decide) (by omega) (fun c269 => ?_) (fun c269 => ?_)
              · skip
                refine lv_aload_n hx hb d_M_putAll_284 rfl (lv_at hl 1 rfl) ?_
                refine y_callW (y_runV (As := []) (rest := []) hx hb hml hown (c_M_putBetween l G h dg mp ml th n t pl pn xy pt sz rs ou sl p fk fp va oa (upd oc4 z (nI b)) ok1 os4  (by omega)) (gV (n := 0) hg tk_915 tk_917 (gt_s 58 (by decide +kernel) (by decide +kernel)) tk_7 tk_918 (by decide +kernel) ⟨Nat.le_of_ble_eq_true rfl, Nat.le_of_ble_eq_true rfl⟩) (va_recv hK hP (ci := 5) (q0 := 0) rfl rfl) (y_preW hE hK hP hD hS hA) rfl rfl hl.1 rfl (lv_room (Nat.le_of_ble_eq_true rfl)) d_M_putAll_285 ⟨Nat.le_of_ble_eq_true rfl, Nat.le_of_ble_eq_true rfl⟩) hD hS hA (fun _ _ _ _ _ _ hp => False.elim hp) (fun v9 w9 H locs hp hlw hP hD hS => ?_)
                obtain ⟨rfl, rfl⟩ := hp
                have hP : va_P (gD G) vwC (wMW G h dg mp ml th n t pl pn xy pt sz rs ou sl p fk fp va oa (upd oc4 z (nI b)) ok1 (os4 ++ [44, 32])) H := hP
                have hD : va_D A (wMW G h dg mp ml th n t pl pn xy pt sz rs ou sl p fk fp va oa (upd oc4 z (nI b)) ok1 (os4 ++ [44, 32])) := hD
                refine W.eq (g2 := F0 mm 288 ls []) rfl ?_
                refine lv_goto (tgt := 228) hx hb d_M_putAll_288 (by decide) ?_
                refine lv_iload hx hb d_M_putAll_228 (lv_at hl 0 rfl) ?_
                refine yn_if_eq (a := 0) (tgt := 291) hx hb d_M_putAll_230 (by decide) (by omega) (fun c230 => ?_) (fun c230 => ?_)
                · skip
                  refine lv_iload hx hb d_M_putAll_291 (lv_at hl 0 rfl) ?_
                  refine yn_if_ne (a := 0) (tgt := 300) hx hb d_M_putAll_293 (by decide) (by omega) (fun c293 => ?_) (fun c293 => ?_)
                  · skip
                    exact absurd c293 (by decide)
                  · skip
                    refine lv_iconst (v := nI 1) hx hb d_M_putAll_296 (by decide) ?_
                    refine lv_goto (tgt := 301) hx hb d_M_putAll_297 (by decide) ?_
                    refine lv_istore (lv' := [(5, .int (nI 1)), (8, .int (nI 0)), (0, .ref (h 0)), (1, .int (nI s)), (2, .int (nI (z + 1))), (3, .int (nI (4096 * s + nx4))), (4, .int (nI py4))]) hx hb d_M_putAll_301 hl (by decide) rfl (fun ls hl => ?_)
                    refine lv_goto (tgt := 14) hx hb d_M_putAll_303 (by decide) ?_
                    refine lv_iload hx hb d_M_putAll_14 (lv_at hl 0 rfl) ?_
                    refine yn_if_eq (a := 1) (tgt := 306) hx hb d_M_putAll_16 (by decide) (by omega) (fun c16 => ?_) (fun c16 => ?_)
                    · skip
                      exact absurd c16 (by decide)
                    · skip
                      exact ih9 M4 (z + 1) nx4 py4 (os4 ++ [44, 32]) (upd oc4 z (nI b)) ok1 (by omega) (by first | exact hb1 (by omega) | (exfalso; omega)) (by omega) (by omega) (by first | (simp only [List.length_append, List.length_singleton, List.length_cons, List.length_nil]; omega) | (exfalso; omega)) _ _ _ hP hD hS (lv_sub hl [2, 3, 4, 5, 6] (rfl))
                · skip
                  exact absurd c230 (by decide)
              · skip
                exact absurd c269 (by decide)
            · skip
              obtain ⟨M5, hM5, hPI5⟩ := hb0 c257
              subst c257
              refine lv_iconst (v := nI 1) hx hb d_M_putAll_260 (by decide) ?_
              refine lv_goto (tgt := 265) hx hb d_M_putAll_261 (by decide) ?_
              refine lv_istore (lv' := [(8, .int (nI 1)), (0, .ref (h 0)), (1, .int (nI s)), (2, .int (nI (z + 1))), (3, .int (nI (4096 * s + nx4))), (4, .int (nI py4))]) hx hb d_M_putAll_265 hl (by decide) rfl (fun ls hl => ?_)
              refine lv_iload hx hb d_M_putAll_267 (lv_at hl 0 rfl) ?_
              refine yn_if_eq (a := 1) (tgt := 284) hx hb d_M_putAll_269 (by decide) (by omega) (fun c269 => ?_) (fun c269 => ?_)
              · skip
                exact absurd c269 (by decide)
              · skip
                refine lv_aload_n hx hb d_M_putAll_272 rfl (lv_at hl 1 rfl) ?_
                refine lv_bipush (v := nI 41) hx hb d_M_putAll_273 (by decide) ?_
                refine y_callW (y_runV (As := [.int (nI 41)]) (rest := []) hx hb hml hown (c_M_put l G h dg mp ml th n t pl pn xy pt sz rs ou sl p fk fp va oa (upd oc4 z (nI 0)) ok1 os4 41 (by omega)) (gV (n := 1) hg tk_907 tk_909 (gt_s 56 (by decide +kernel) (by decide +kernel)) tk_7 tk_910 (by decide +kernel) ⟨Nat.le_of_ble_eq_true rfl, Nat.le_of_ble_eq_true rfl⟩) (va_recv hK hP (ci := 5) (q0 := 0) rfl rfl) (y_preW hE hK hP hD hS hA) rfl rfl hl.1 rfl (lv_room (Nat.le_of_ble_eq_true rfl)) d_M_putAll_275 ⟨Nat.le_of_ble_eq_true rfl, Nat.le_of_ble_eq_true rfl⟩) hD hS hA (fun _ _ _ _ _ _ hp => False.elim hp) (fun v9 w9 H locs hp hlw hP hD hS => ?_)
                obtain ⟨rfl, rfl⟩ := hp
                have hP : va_P (gD G) vwC (wMW G h dg mp ml th n t pl pn xy pt sz rs ou sl p fk fp va oa (upd oc4 z (nI 0)) ok1 (os4 ++ [41])) H := hP
                have hD : va_D A (wMW G h dg mp ml th n t pl pn xy pt sz rs ou sl p fk fp va oa (upd oc4 z (nI 0)) ok1 (os4 ++ [41])) := hD
                refine W.eq (g2 := F0 mm 278 ls []) rfl ?_
                refine lv_iinc (v := nI z) (lv' := [(2, .int (nI z)), (8, .int (nI 1)), (0, .ref (h 0)), (1, .int (nI s)), (3, .int (nI (4096 * s + nx4))), (4, .int (nI py4))]) hx hb d_M_putAll_278 hl (k := 3) rfl ((y_dec (by omega)).trans (congrArg nI (by omega))) (by decide) rfl (fun ls hl => ?_)
                refine lv_goto (tgt := 228) hx hb d_M_putAll_281 (by decide) ?_
                refine lv_iload hx hb d_M_putAll_228 (lv_at hl 1 rfl) ?_
                refine yn_if_eq (a := 1) (tgt := 291) hx hb d_M_putAll_230 (by decide) (by omega) (fun c230 => ?_) (fun c230 => ?_)
                · skip
                  exact absurd c230 (by decide)
                · skip
                  exact ih9_233 M5 z nx4 py4 (os4 ++ [41]) (upd oc4 z (nI 0)) (by omega) (hPI5) (by omega) (by omega) (by simp only [List.length_append, List.length_singleton, List.length_cons, List.length_nil]; omega) (by omega) (by omega) _ _ _ hP hD hS (lv_sub hl [2, 3, 0, 4, 5, 1] (rfl))
      have J146 : ∀ (n9_146 : Nat) (M3 : Nat) (r : Nat) (nx3 : Nat) (py3 : Nat) (os3 : List Nat) (hm9_146 : v - r < n9_146) (hG : PG dg k (fun i => pl (4096 * s + i)) c (fun j => xy (8192 * s + j)) tau M3 D nx3 py3 v r os3 oc1 ok1) (hM3 : M3 ≤ M) (hr9 : r ≤ v ∧ 0 < v) (hnx3 : nx3 ≤ k) (hpy3 : py3 ≤ c) (hlen3 : os3.length + 4 * D + 2 ≤ 60 * (nx3 + py3)) (H : Heap) (locs : List Loc) (ls : Array Slot), va_P (gD G) vwC (wMW G h dg mp ml th n t pl pn xy pt sz rs ou sl p fk fp va oa oc1 ok1 os3) H → va_D A (wMW G h dg mp ml th n t pl pn xy pt sz rs ou sl p fk fp va oa oc1 ok1 os3) → va_S A sx.heap H locs → lv_has ls 10 [(0, .ref (h 0)), (1, .int (nI s)), (2, .int (nI D)), (3, .int (nI (4096 * s + nx3))), (4, .int (nI py3)), (6, .int (nI kd)), (7, .int (nI v)), (8, .int (nI 1)), (9, .int (nI r))] → W pg l ev (yR 3 72) sx mm ([.ref (h 0), .int (nI s)] : List Value).toArray bl mt cd H locs 0 0 (yMQ bl G A (wMW G h dg mp ml th n t pl pn xy pt sz rs ou sl p fk fp va oa oc ok os).length (fun v w => (∃ oc9 ok9, (tau.1.length ≤ 500000) ∧ v = none ∧ w = wMW G h dg mp ml th n t pl pn xy pt sz rs ou sl p fk fp va oa oc9 ok9 tau.1)) (fun _ _ => False) ([.ref (h 0), .int (nI s)] : List Value).toArray sx) (F0 mm 146 ls []) := by
        intro n9_146
        induction n9_146 with
        | zero => intro M3 r nx3 py3 os3 hm9_146; exact absurd hm9_146 (Nat.not_lt_zero _)
        | succ n9_146 ih9_146 =>
          intro M3 r nx3 py3 os3 hm9_146 hG hM3 hr9 hnx3 hpy3 hlen3 H locs ls hP hD hS hl
          refine lv_iload hx hb d_M_putAll_146 (lv_at hl 8 rfl) ?_
          refine lv_iload hx hb d_M_putAll_148 (lv_at hl 6 rfl) ?_
          refine yn_icmp_ge (a := r) (b := v) (tgt := 195) hx hb d_M_putAll_150 (by decide) (by omega) (by omega) (fun c150 => ?_) (fun c150 => ?_)
          · skip
            obtain ⟨M3e, hM3e, hPI3⟩ := pg_e hr9.2 (show PG dg k (fun i => pl (4096 * s + i)) c (fun j => xy (8192 * s + j)) tau M3 D nx3 py3 v v os3 oc1 ok1 by rw [show r = v by omega] at hG; exact hG)
            refine lv_aload_n hx hb d_M_putAll_195 rfl (lv_at hl 0 rfl) ?_
            refine lv_bipush (v := nI 41) hx hb d_M_putAll_196 (by decide) ?_
            refine y_callW (y_runV (As := [.int (nI 41)]) (rest := []) hx hb hml hown (c_M_put l G h dg mp ml th n t pl pn xy pt sz rs ou sl p fk fp va oa oc1 ok1 os3 41 (by omega)) (gV (n := 1) hg tk_907 tk_909 (gt_s 56 (by decide +kernel) (by decide +kernel)) tk_7 tk_910 (by decide +kernel) ⟨Nat.le_of_ble_eq_true rfl, Nat.le_of_ble_eq_true rfl⟩) (va_recv hK hP (ci := 5) (q0 := 0) rfl rfl) (y_preW hE hK hP hD hS hA) rfl rfl hl.1 rfl (lv_room (Nat.le_of_ble_eq_true rfl)) d_M_putAll_198 ⟨Nat.le_of_ble_eq_true rfl, Nat.le_of_ble_eq_true rfl⟩) hD hS hA (fun _ _ _ _ _ _ hp => False.elim hp) (fun v9 w9 H locs hp hlw hP hD hS => ?_)
            obtain ⟨rfl, rfl⟩ := hp
            have hP : va_P (gD G) vwC (wMW G h dg mp ml th n t pl pn xy pt sz rs ou sl p fk fp va oa oc1 ok1 (os3 ++ [41])) H := hP
            have hD : va_D A (wMW G h dg mp ml th n t pl pn xy pt sz rs ou sl p fk fp va oa oc1 ok1 (os3 ++ [41])) := hD
            refine W.eq (g2 := F0 mm 201 ls []) rfl ?_
            refine lv_goto (tgt := 228) hx hb d_M_putAll_201 (by decide) ?_
            refine lv_iload hx hb d_M_putAll_228 (lv_at hl 7 rfl) ?_
            refine yn_if_eq (a := 1) (tgt := 291) hx hb d_M_putAll_230 (by decide) (by omega) (fun c230 => ?_) (fun c230 => ?_)
            · skip
              exact absurd c230 (by decide)
            · skip
              exact J233 _ M3e D nx3 py3 (os3 ++ [41]) oc1 (Nat.lt_succ_self _) (hPI3) (by omega) (by omega) (by simp only [List.length_append, List.length_singleton, List.length_cons, List.length_nil]; omega) (by omega) (by omega) _ _ _ hP hD hS (lv_sub hl [0, 1, 2, 3, 4, 7] (rfl))
          · skip
            obtain ⟨q, M6, hM6, hq1, hq2, eq9, hnk3, hPG6, hbd⟩ := pg_it hv c150 hG
            have hpl := ptsL_len dg (fun j => xy (8192 * s + j)) py3 q
            have hpv := (hbd (q - 1) (by omega)).1
            refine lv_iload hx hb d_M_putAll_153 (lv_at hl 8 rfl) ?_
            refine yn_if_le (a := r) (tgt := 162) hx hb d_M_putAll_155 (by decide) (by omega) (fun c155 => ?_) (fun c155 => ?_)
            · skip
              refine lv_aload_n hx hb d_M_putAll_162 rfl (lv_at hl 0 rfl) ?_
              refine lv_iload_n hx hb d_M_putAll_163 rfl (lv_at hl 1 rfl) ?_
              refine lv_iload hx hb d_M_putAll_164 (lv_at hl 4 rfl) ?_
              refine lv_aload_n hx hb d_M_putAll_166 rfl (lv_at hl 0 rfl) ?_
              refine va_get (D := gD G) (ci := 5) (v := .ref (h 4)) (C := "WordShapesModel") (T := TM) (N := 24) hx hb hg iw_M hown hK hP 0 rfl rfl 8 (by decide) (hg _ tk_691) (fun _ h9 => h9) rfl d_M_putAll_167 ?_
              refine lv_iload_n hx hb d_M_putAll_170 rfl (lv_at hl 3 rfl) ?_
              refine yn_iald hx hb hK hP 4 0 rfl rfl (j := 4096 * s + nx3) (x := nI q) (eq9) (by omega) (by omega) d_M_putAll_171 ?_
              refine y_callW (y_runV (As := [.int (nI s), .int (nI py3), .int (nI q)]) (rest := []) hx hb hml hown (c_M_putPoints l G h dg mp ml th n t pl pn xy pt sz rs ou sl p fk fp va oa oc1 ok1 os3 s py3 q (by omega) (by omega) (by omega) (fun j hj => (hbd j hj).2) (by first | omega | (simp only [List.length_append, List.length_singleton, List.length_cons, List.length_nil]; omega))) (gV (n := 3) hg tk_911 tk_913 (gt_s 57 (by decide +kernel) (by decide +kernel)) tk_7 tk_914 (by decide +kernel) ⟨Nat.le_of_ble_eq_true rfl, Nat.le_of_ble_eq_true rfl⟩) (va_recv hK hP (ci := 5) (q0 := 0) rfl rfl) (y_preW hE hK hP hD hS hA) rfl rfl hl.1 rfl (lv_room (Nat.le_of_ble_eq_true rfl)) d_M_putAll_172 ⟨Nat.le_of_ble_eq_true rfl, Nat.le_of_ble_eq_true rfl⟩) hD hS hA (fun _ _ _ _ _ _ hp => False.elim hp) (fun v9 w9 H locs hp hlw hP hD hS => ?_)
              obtain ⟨rfl, rfl⟩ := hp
              have hP : va_P (gD G) vwC (wMW G h dg mp ml th n t pl pn xy pt sz rs ou sl p fk fp va oa oc1 ok1 (os3 ++ ([40] ++ ptsL dg (fun j => xy (8192 * s + j)) py3 q ++ [41]))) H := hP
              have hD : va_D A (wMW G h dg mp ml th n t pl pn xy pt sz rs ou sl p fk fp va oa oc1 ok1 (os3 ++ ([40] ++ ptsL dg (fun j => xy (8192 * s + j)) py3 q ++ [41]))) := hD
              refine W.eq (g2 := F0 mm 175 ls []) rfl ?_
              have e9 : os3 ++ ([40] ++ ptsL dg (fun j => xy (8192 * s + j)) py3 q ++ [41]) = os3 ++ (if r = 0 then [] else [44, 32]) ++ ([40] ++ ptsL dg (fun j => xy (8192 * s + j)) py3 q ++ [41]) := by first | rw [if_pos (show r = 0 by omega), List.append_nil] | rw [if_neg (show ¬ r = 0 by omega)]
              rw [e9] at hP hD
              have hP : va_P (gD G) vwC (wMW G h dg mp ml th n t pl pn xy pt sz rs ou sl p fk fp va oa oc1 ok1 (os3 ++ (if r = 0 then [] else [44, 32]) ++ ([40] ++ ptsL dg (fun j => xy (8192 * s + j)) py3 q ++ [41]))) H := hP
              have hD : va_D A (wMW G h dg mp ml th n t pl pn xy pt sz rs ou sl p fk fp va oa oc1 ok1 (os3 ++ (if r = 0 then [] else [44, 32]) ++ ([40] ++ ptsL dg (fun j => xy (8192 * s + j)) py3 q ++ [41]))) := hD
              refine lv_iload hx hb d_M_putAll_175 (lv_at hl 4 rfl) ?_
              refine lv_aload_n hx hb d_M_putAll_177 rfl (lv_at hl 0 rfl) ?_
              refine va_get (D := gD G) (ci := 5) (v := .ref (h 4)) (C := "WordShapesModel") (T := TM) (N := 24) hx hb hg iw_M hown hK hP 0 rfl rfl 8 (by decide) (hg _ tk_691) (fun _ h9 => h9) rfl d_M_putAll_178 ?_
              refine lv_iload_n hx hb d_M_putAll_181 rfl (lv_at hl 3 rfl) ?_
              refine yn_iald hx hb hK hP 4 0 rfl rfl (j := 4096 * s + nx3) (x := nI q) (eq9) (by omega) (by omega) d_M_putAll_182 ?_
              refine lv_iadd hx hb d_M_putAll_183 ?_
              refine y_eqi (nI_add _ _) ?_
              refine lv_istore (lv' := [(4, .int (nI (py3 + q))), (0, .ref (h 0)), (1, .int (nI s)), (2, .int (nI D)), (3, .int (nI (4096 * s + nx3))), (6, .int (nI kd)), (7, .int (nI v)), (8, .int (nI 1)), (9, .int (nI r))]) hx hb d_M_putAll_184 hl (by decide) rfl (fun ls hl => ?_)
              refine lv_iinc (v := nI (4096 * s + nx3 + 1)) (lv' := [(3, .int (nI (4096 * s + nx3 + 1))), (4, .int (nI (py3 + q))), (0, .ref (h 0)), (1, .int (nI s)), (2, .int (nI D)), (6, .int (nI kd)), (7, .int (nI v)), (8, .int (nI 1)), (9, .int (nI r))]) hx hb d_M_putAll_186 hl (k := 4) rfl (y_inc _) (by decide) rfl (fun ls hl => ?_)
              refine lv_iinc (v := nI (r + 1)) (lv' := [(9, .int (nI (r + 1))), (3, .int (nI (4096 * s + nx3 + 1))), (4, .int (nI (py3 + q))), (0, .ref (h 0)), (1, .int (nI s)), (2, .int (nI D)), (6, .int (nI kd)), (7, .int (nI v)), (8, .int (nI 1))]) hx hb d_M_putAll_189 hl (k := 8) rfl (y_inc _) (by decide) rfl (fun ls hl => ?_)
              refine lv_goto (tgt := 146) hx hb d_M_putAll_192 (by decide) ?_
              exact ih9_146 M6 (r + 1) (nx3 + 1) (py3 + q) (os3 ++ (if r = 0 then [] else [44, 32]) ++ ([40] ++ ptsL dg (fun j => xy (8192 * s + j)) py3 q ++ [41])) (by omega) (hPG6) (by omega) (by omega) (by omega) (by omega) (by rw [List.length_append, List.length_append]; simp only [List.length_append, List.length_singleton, List.length_cons, List.length_nil]; have : (if r = 0 then [] else [44, 32] : List Nat).length ≤ 2 := (by split <;> simp); omega) _ _ _ hP hD hS (lv_sub hl [3, 4, 5, 1, 2, 6, 7, 8, 0] (rfl))
            · skip
              refine lv_aload_n hx hb d_M_putAll_158 rfl (lv_at hl 0 rfl) ?_
              refine y_callW (y_runV (As := []) (rest := []) hx hb hml hown (c_M_putBetween l G h dg mp ml th n t pl pn xy pt sz rs ou sl p fk fp va oa oc1 ok1 os3  (by omega)) (gV (n := 0) hg tk_915 tk_917 (gt_s 58 (by decide +kernel) (by decide +kernel)) tk_7 tk_918 (by decide +kernel) ⟨Nat.le_of_ble_eq_true rfl, Nat.le_of_ble_eq_true rfl⟩) (va_recv hK hP (ci := 5) (q0 := 0) rfl rfl) (y_preW hE hK hP hD hS hA) rfl rfl hl.1 rfl (lv_room (Nat.le_of_ble_eq_true rfl)) d_M_putAll_159 ⟨Nat.le_of_ble_eq_true rfl, Nat.le_of_ble_eq_true rfl⟩) hD hS hA (fun _ _ _ _ _ _ hp => False.elim hp) (fun v9 w9 H locs hp hlw hP hD hS => ?_)
              obtain ⟨rfl, rfl⟩ := hp
              have hP : va_P (gD G) vwC (wMW G h dg mp ml th n t pl pn xy pt sz rs ou sl p fk fp va oa oc1 ok1 (os3 ++ [44, 32])) H := hP
              have hD : va_D A (wMW G h dg mp ml th n t pl pn xy pt sz rs ou sl p fk fp va oa oc1 ok1 (os3 ++ [44, 32])) := hD
              refine W.eq (g2 := F0 mm 162 ls []) rfl ?_
              refine lv_aload_n hx hb d_M_putAll_162 rfl (lv_at hl 0 rfl) ?_
              refine lv_iload_n hx hb d_M_putAll_163 rfl (lv_at hl 1 rfl) ?_
              refine lv_iload hx hb d_M_putAll_164 (lv_at hl 4 rfl) ?_
              refine lv_aload_n hx hb d_M_putAll_166 rfl (lv_at hl 0 rfl) ?_
              refine va_get (D := gD G) (ci := 5) (v := .ref (h 4)) (C := "WordShapesModel") (T := TM) (N := 24) hx hb hg iw_M hown hK hP 0 rfl rfl 8 (by decide) (hg _ tk_691) (fun _ h9 => h9) rfl d_M_putAll_167 ?_
              refine lv_iload_n hx hb d_M_putAll_170 rfl (lv_at hl 3 rfl) ?_
              refine yn_iald hx hb hK hP 4 0 rfl rfl (j := 4096 * s + nx3) (x := nI q) (eq9) (by omega) (by omega) d_M_putAll_171 ?_
              refine y_callW (y_runV (As := [.int (nI s), .int (nI py3), .int (nI q)]) (rest := []) hx hb hml hown (c_M_putPoints l G h dg mp ml th n t pl pn xy pt sz rs ou sl p fk fp va oa oc1 ok1 (os3 ++ [44, 32]) s py3 q (by omega) (by omega) (by omega) (fun j hj => (hbd j hj).2) (by first | omega | (simp only [List.length_append, List.length_singleton, List.length_cons, List.length_nil]; omega))) (gV (n := 3) hg tk_911 tk_913 (gt_s 57 (by decide +kernel) (by decide +kernel)) tk_7 tk_914 (by decide +kernel) ⟨Nat.le_of_ble_eq_true rfl, Nat.le_of_ble_eq_true rfl⟩) (va_recv hK hP (ci := 5) (q0 := 0) rfl rfl) (y_preW hE hK hP hD hS hA) rfl rfl hl.1 rfl (lv_room (Nat.le_of_ble_eq_true rfl)) d_M_putAll_172 ⟨Nat.le_of_ble_eq_true rfl, Nat.le_of_ble_eq_true rfl⟩) hD hS hA (fun _ _ _ _ _ _ hp => False.elim hp) (fun v9 w9 H locs hp hlw hP hD hS => ?_)
              obtain ⟨rfl, rfl⟩ := hp
              have hP : va_P (gD G) vwC (wMW G h dg mp ml th n t pl pn xy pt sz rs ou sl p fk fp va oa oc1 ok1 ((os3 ++ [44, 32]) ++ ([40] ++ ptsL dg (fun j => xy (8192 * s + j)) py3 q ++ [41]))) H := hP
              have hD : va_D A (wMW G h dg mp ml th n t pl pn xy pt sz rs ou sl p fk fp va oa oc1 ok1 ((os3 ++ [44, 32]) ++ ([40] ++ ptsL dg (fun j => xy (8192 * s + j)) py3 q ++ [41]))) := hD
              refine W.eq (g2 := F0 mm 175 ls []) rfl ?_
              have e9 : (os3 ++ [44, 32]) ++ ([40] ++ ptsL dg (fun j => xy (8192 * s + j)) py3 q ++ [41]) = os3 ++ (if r = 0 then [] else [44, 32]) ++ ([40] ++ ptsL dg (fun j => xy (8192 * s + j)) py3 q ++ [41]) := by first | rw [if_pos (show r = 0 by omega), List.append_nil] | rw [if_neg (show ¬ r = 0 by omega)]
              rw [e9] at hP hD
              have hP : va_P (gD G) vwC (wMW G h dg mp ml th n t pl pn xy pt sz rs ou sl p fk fp va oa oc1 ok1 (os3 ++ (if r = 0 then [] else [44, 32]) ++ ([40] ++ ptsL dg (fun j => xy (8192 * s + j)) py3 q ++ [41]))) H := hP
              have hD : va_D A (wMW G h dg mp ml th n t pl pn xy pt sz rs ou sl p fk fp va oa oc1 ok1 (os3 ++ (if r = 0 then [] else [44, 32]) ++ ([40] ++ ptsL dg (fun j => xy (8192 * s + j)) py3 q ++ [41]))) := hD
              refine lv_iload hx hb d_M_putAll_175 (lv_at hl 4 rfl) ?_
              refine lv_aload_n hx hb d_M_putAll_177 rfl (lv_at hl 0 rfl) ?_
              refine va_get (D := gD G) (ci := 5) (v := .ref (h 4)) (C := "WordShapesModel") (T := TM) (N := 24) hx hb hg iw_M hown hK hP 0 rfl rfl 8 (by decide) (hg _ tk_691) (fun _ h9 => h9) rfl d_M_putAll_178 ?_
              refine lv_iload_n hx hb d_M_putAll_181 rfl (lv_at hl 3 rfl) ?_
              refine yn_iald hx hb hK hP 4 0 rfl rfl (j := 4096 * s + nx3) (x := nI q) (eq9) (by omega) (by omega) d_M_putAll_182 ?_
              refine lv_iadd hx hb d_M_putAll_183 ?_
              refine y_eqi (nI_add _ _) ?_
              refine lv_istore (lv' := [(4, .int (nI (py3 + q))), (0, .ref (h 0)), (1, .int (nI s)), (2, .int (nI D)), (3, .int (nI (4096 * s + nx3))), (6, .int (nI kd)), (7, .int (nI v)), (8, .int (nI 1)), (9, .int (nI r))]) hx hb d_M_putAll_184 hl (by decide) rfl (fun ls hl => ?_)
              refine lv_iinc (v := nI (4096 * s + nx3 + 1)) (lv' := [(3, .int (nI (4096 * s + nx3 + 1))), (4, .int (nI (py3 + q))), (0, .ref (h 0)), (1, .int (nI s)), (2, .int (nI D)), (6, .int (nI kd)), (7, .int (nI v)), (8, .int (nI 1)), (9, .int (nI r))]) hx hb d_M_putAll_186 hl (k := 4) rfl (y_inc _) (by decide) rfl (fun ls hl => ?_)
              refine lv_iinc (v := nI (r + 1)) (lv' := [(9, .int (nI (r + 1))), (3, .int (nI (4096 * s + nx3 + 1))), (4, .int (nI (py3 + q))), (0, .ref (h 0)), (1, .int (nI s)), (2, .int (nI D)), (6, .int (nI kd)), (7, .int (nI v)), (8, .int (nI 1))]) hx hb d_M_putAll_189 hl (k := 8) rfl (y_inc _) (by decide) rfl (fun ls hl => ?_)
              refine lv_goto (tgt := 146) hx hb d_M_putAll_192 (by decide) ?_
              exact ih9_146 M6 (r + 1) (nx3 + 1) (py3 + q) (os3 ++ (if r = 0 then [] else [44, 32]) ++ ([40] ++ ptsL dg (fun j => xy (8192 * s + j)) py3 q ++ [41])) (by omega) (hPG6) (by omega) (by omega) (by omega) (by omega) (by rw [List.length_append, List.length_append]; simp only [List.length_append, List.length_singleton, List.length_cons, List.length_nil]; have : (if r = 0 then [] else [44, 32] : List Nat).length ≤ 2 := (by split <;> simp); omega) _ _ _ hP hD hS (lv_sub hl [3, 4, 5, 1, 2, 6, 7, 8, 0] (rfl))
      have J69 : ∀   (H : Heap) (locs : List Loc) (ls : Array Slot), va_P (gD G) vwC (wMW G h dg mp ml th n t pl pn xy pt sz rs ou sl p fk fp va oa oc1 ok1 (os1 ++ hdT K kd)) H → va_D A (wMW G h dg mp ml th n t pl pn xy pt sz rs ou sl p fk fp va oa oc1 ok1 (os1 ++ hdT K kd)) → va_S A sx.heap H locs → lv_has ls 10 [(0, .ref (h 0)), (1, .int (nI s)), (2, .int (nI D)), (3, .int (nI (4096 * s + (nx + 2)))), (4, .int (nI py)), (6, .int (nI kd)), (7, .int (nI v))] → W pg l ev (yR 3 72) sx mm ([.ref (h 0), .int (nI s)] : List Value).toArray bl mt cd H locs 0 0 (yMQ bl G A (wMW G h dg mp ml th n t pl pn xy pt sz rs ou sl p fk fp va oa oc ok os).length (fun v w => (∃ oc9 ok9, (tau.1.length ≤ 500000) ∧ v = none ∧ w = wMW G h dg mp ml th n t pl pn xy pt sz rs ou sl p fk fp va oa oc9 ok9 tau.1)) (fun _ _ => False) ([.ref (h 0), .int (nI s)] : List Value).toArray sx) (F0 mm 69 ls []) := by
        intro   H locs ls hP hD hS hl
        refine lv_iload hx hb d_M_putAll_69 (lv_at hl 5 rfl) ?_
        refine lv_iconst (v := nI 4) hx hb d_M_putAll_71 (by decide) ?_
        refine yn_icmp_lt (a := kd) (b := 4) (tgt := 80) hx hb d_M_putAll_72 (by decide) (by omega) (by omega) (fun c72 => ?_) (fun c72 => ?_)
        · skip
          refine lv_iconst (v := nI 1) hx hb d_M_putAll_80 (by decide) ?_
          refine lv_goto (tgt := 85) hx hb d_M_putAll_81 (by decide) ?_
          refine lv_istore (lv' := [(8, .int (nI 1)), (0, .ref (h 0)), (1, .int (nI s)), (2, .int (nI D)), (3, .int (nI (4096 * s + (nx + 2)))), (4, .int (nI py)), (6, .int (nI kd)), (7, .int (nI v))]) hx hb d_M_putAll_85 hl (by decide) rfl (fun ls hl => ?_)
          refine lv_iload hx hb d_M_putAll_87 (lv_at hl 7 rfl) ?_
          refine yn_if_ne (a := v) (tgt := 101) hx hb d_M_putAll_89 (by decide) (by omega) (fun c89 => ?_) (fun c89 => ?_)
          · skip
            refine lv_iload hx hb d_M_putAll_101 (lv_at hl 6 rfl) ?_
            refine lv_iconst (v := nI 3) hx hb d_M_putAll_103 (by decide) ?_
            refine yn_icmp_ge (a := kd) (b := 3) (tgt := 126) hx hb d_M_putAll_104 (by decide) (by omega) (by omega) (fun c104 => ?_) (fun c104 => ?_)
            · skip
              refine lv_aload_n hx hb d_M_putAll_126 rfl (lv_at hl 1 rfl) ?_
              refine lv_bipush (v := nI 40) hx hb d_M_putAll_127 (by decide) ?_
              refine y_callW (y_runV (As := [.int (nI 40)]) (rest := []) hx hb hml hown (c_M_put l G h dg mp ml th n t pl pn xy pt sz rs ou sl p fk fp va oa oc1 ok1 (os1 ++ hdT K kd) 40 (by first | omega | (simp only [List.length_append, List.length_singleton, List.length_cons, List.length_nil]; omega))) (gV (n := 1) hg tk_907 tk_909 (gt_s 56 (by decide +kernel) (by decide +kernel)) tk_7 tk_910 (by decide +kernel) ⟨Nat.le_of_ble_eq_true rfl, Nat.le_of_ble_eq_true rfl⟩) (va_recv hK hP (ci := 5) (q0 := 0) rfl rfl) (y_preW hE hK hP hD hS hA) rfl rfl hl.1 rfl (lv_room (Nat.le_of_ble_eq_true rfl)) d_M_putAll_129 ⟨Nat.le_of_ble_eq_true rfl, Nat.le_of_ble_eq_true rfl⟩) hD hS hA (fun _ _ _ _ _ _ hp => False.elim hp) (fun v9 w9 H locs hp hlw hP hD hS => ?_)
              obtain ⟨rfl, rfl⟩ := hp
              have hP : va_P (gD G) vwC (wMW G h dg mp ml th n t pl pn xy pt sz rs ou sl p fk fp va oa oc1 ok1 ((os1 ++ hdT K kd) ++ [40])) H := hP
              have hD : va_D A (wMW G h dg mp ml th n t pl pn xy pt sz rs ou sl p fk fp va oa oc1 ok1 ((os1 ++ hdT K kd) ++ [40])) := hD
              refine W.eq (g2 := F0 mm 132 ls []) rfl ?_
              refine lv_iload hx hb d_M_putAll_132 (lv_at hl 6 rfl) ?_
              refine lv_iconst (v := nI 3) hx hb d_M_putAll_134 (by decide) ?_
              refine yn_icmp_ne (a := kd) (b := 3) (tgt := 204) hx hb d_M_putAll_135 (by decide) (by omega) (by omega) (fun c135 => ?_) (fun c135 => ?_)
              · skip
                refine lv_iload hx hb d_M_putAll_204 (lv_at hl 0 rfl) ?_
                refine yn_if_ne (a := 1) (tgt := 228) hx hb d_M_putAll_206 (by decide) (by omega) (fun c206 => ?_) (fun c206 => ?_)
                · skip
                  refine lv_iload hx hb d_M_putAll_228 (lv_at hl 0 rfl) ?_
                  refine yn_if_eq (a := 1) (tgt := 291) hx hb d_M_putAll_230 (by decide) (by omega) (fun c230 => ?_) (fun c230 => ?_)
                  · skip
                    exact absurd c230 (by decide)
                  · skip
                    exact J233 _ M D (nx + 2) py ((os1 ++ hdT K kd) ++ [40]) oc1 (Nat.lt_succ_self _) (by first | exact p1 (by omega) | (exfalso; omega)) (by omega) (by omega) (by first | (simp only [List.length_append, List.length_singleton, List.length_cons, List.length_nil]; omega) | (exfalso; omega)) (by omega) (by omega) _ _ _ hP hD hS (lv_sub hl [1, 2, 3, 4, 5, 0] (rfl))
                · skip
                  exact absurd c206 (by decide)
              · skip
                refine lv_iload hx hb d_M_putAll_138 (lv_at hl 7 rfl) ?_
                refine yn_if_le (a := v) (tgt := 204) hx hb d_M_putAll_140 (by decide) (by omega) (fun c140 => ?_) (fun c140 => ?_)
                · skip
                  refine lv_iload hx hb d_M_putAll_204 (lv_at hl 0 rfl) ?_
                  refine yn_if_ne (a := 1) (tgt := 228) hx hb d_M_putAll_206 (by decide) (by omega) (fun c206 => ?_) (fun c206 => ?_)
                  · skip
                    refine lv_iload hx hb d_M_putAll_228 (lv_at hl 0 rfl) ?_
                    refine yn_if_eq (a := 1) (tgt := 291) hx hb d_M_putAll_230 (by decide) (by omega) (fun c230 => ?_) (fun c230 => ?_)
                    · skip
                      exact absurd c230 (by decide)
                    · skip
                      exact J233 _ M D (nx + 2) py ((os1 ++ hdT K kd) ++ [40]) oc1 (Nat.lt_succ_self _) (by first | exact p1 (by omega) | (exfalso; omega)) (by omega) (by omega) (by first | (simp only [List.length_append, List.length_singleton, List.length_cons, List.length_nil]; omega) | (exfalso; omega)) (by omega) (by omega) _ _ _ hP hD hS (lv_sub hl [1, 2, 3, 4, 5, 0] (rfl))
                  · skip
                    exact absurd c206 (by decide)
                · skip
                  refine lv_iconst (v := nI 0) hx hb d_M_putAll_143 (by decide) ?_
                  refine lv_istore (lv' := [(9, .int (nI 0)), (8, .int (nI 1)), (0, .ref (h 0)), (1, .int (nI s)), (2, .int (nI D)), (3, .int (nI (4096 * s + (nx + 2)))), (4, .int (nI py)), (6, .int (nI kd)), (7, .int (nI v))]) hx hb d_M_putAll_144 hl (by decide) rfl (fun ls hl => ?_)
                  exact J146 _ M 0 (nx + 2) py ((os1 ++ hdT K kd) ++ [40]) (Nat.lt_succ_self _) (by first | exact p3 (by omega) (by omega) | (exfalso; omega)) (by omega) (by omega) (by omega) (by omega) (by first | (simp only [List.length_append, List.length_singleton, List.length_cons, List.length_nil]; omega) | (exfalso; omega)) _ _ _ hP hD hS (lv_sub hl [2, 3, 4, 5, 6, 7, 8, 1, 0] (rfl))
            · skip
              obtain ⟨M2, hM2, hPI, hbd⟩ := p2 (by omega) c104
              have hpl := ptsL_len dg (fun j => xy (8192 * s + j)) py v
              have hpv := (hbd (v - 1) (by omega)).1
              refine lv_aload_n hx hb d_M_putAll_107 rfl (lv_at hl 1 rfl) ?_
              refine lv_iload_n hx hb d_M_putAll_108 rfl (lv_at hl 2 rfl) ?_
              refine lv_iload hx hb d_M_putAll_109 (lv_at hl 5 rfl) ?_
              refine lv_iload hx hb d_M_putAll_111 (lv_at hl 7 rfl) ?_
              refine y_callW (y_runV (As := [.int (nI s), .int (nI py), .int (nI v)]) (rest := []) hx hb hml hown (c_M_putPoints l G h dg mp ml th n t pl pn xy pt sz rs ou sl p fk fp va oa oc1 ok1 (os1 ++ hdT K kd) s py v (by omega) (by omega) (by omega) (fun j hj => (hbd j hj).2) (by first | omega | (simp only [List.length_append, List.length_singleton, List.length_cons, List.length_nil]; omega))) (gV (n := 3) hg tk_911 tk_913 (gt_s 57 (by decide +kernel) (by decide +kernel)) tk_7 tk_914 (by decide +kernel) ⟨Nat.le_of_ble_eq_true rfl, Nat.le_of_ble_eq_true rfl⟩) (va_recv hK hP (ci := 5) (q0 := 0) rfl rfl) (y_preW hE hK hP hD hS hA) rfl rfl hl.1 rfl (lv_room (Nat.le_of_ble_eq_true rfl)) d_M_putAll_113 ⟨Nat.le_of_ble_eq_true rfl, Nat.le_of_ble_eq_true rfl⟩) hD hS hA (fun _ _ _ _ _ _ hp => False.elim hp) (fun v9 w9 H locs hp hlw hP hD hS => ?_)
              obtain ⟨rfl, rfl⟩ := hp
              have hP : va_P (gD G) vwC (wMW G h dg mp ml th n t pl pn xy pt sz rs ou sl p fk fp va oa oc1 ok1 ((os1 ++ hdT K kd) ++ ([40] ++ ptsL dg (fun j => xy (8192 * s + j)) py v ++ [41]))) H := hP
              have hD : va_D A (wMW G h dg mp ml th n t pl pn xy pt sz rs ou sl p fk fp va oa oc1 ok1 ((os1 ++ hdT K kd) ++ ([40] ++ ptsL dg (fun j => xy (8192 * s + j)) py v ++ [41]))) := hD
              refine W.eq (g2 := F0 mm 116 ls []) rfl ?_
              refine lv_iload hx hb d_M_putAll_116 (lv_at hl 5 rfl) ?_
              refine lv_iload hx hb d_M_putAll_118 (lv_at hl 7 rfl) ?_
              refine lv_iadd hx hb d_M_putAll_120 ?_
              refine y_eqi (nI_add _ _) ?_
              refine lv_istore (lv' := [(4, .int (nI (py + v))), (8, .int (nI 1)), (0, .ref (h 0)), (1, .int (nI s)), (2, .int (nI D)), (3, .int (nI (4096 * s + (nx + 2)))), (6, .int (nI kd)), (7, .int (nI v))]) hx hb d_M_putAll_121 hl (by decide) rfl (fun ls hl => ?_)
              refine lv_goto (tgt := 132) hx hb d_M_putAll_123 (by decide) ?_
              refine lv_iload hx hb d_M_putAll_132 (lv_at hl 6 rfl) ?_
              refine lv_iconst (v := nI 3) hx hb d_M_putAll_134 (by decide) ?_
              refine yn_icmp_ne (a := kd) (b := 3) (tgt := 204) hx hb d_M_putAll_135 (by decide) (by omega) (by omega) (fun c135 => ?_) (fun c135 => ?_)
              · skip
                refine lv_iload hx hb d_M_putAll_204 (lv_at hl 1 rfl) ?_
                refine yn_if_ne (a := 1) (tgt := 228) hx hb d_M_putAll_206 (by decide) (by omega) (fun c206 => ?_) (fun c206 => ?_)
                · skip
                  refine lv_iload hx hb d_M_putAll_228 (lv_at hl 1 rfl) ?_
                  refine yn_if_eq (a := 1) (tgt := 291) hx hb d_M_putAll_230 (by decide) (by omega) (fun c230 => ?_) (fun c230 => ?_)
                  · skip
                    exact absurd c230 (by decide)
                  · skip
                    exact J233 _ M2 D (nx + 2) (py + v) ((os1 ++ hdT K kd) ++ ([40] ++ ptsL dg (fun j => xy (8192 * s + j)) py v ++ [41])) oc1 (Nat.lt_succ_self _) (by first | exact hPI | (exfalso; omega)) (by omega) (by omega) (by first | (simp only [List.length_append, List.length_singleton, List.length_cons, List.length_nil]; omega) | (exfalso; omega)) (by omega) (by omega) _ _ _ hP hD hS (lv_sub hl [2, 3, 4, 5, 0, 1] (rfl))
                · skip
                  exact absurd c206 (by decide)
              · skip
                refine lv_iload hx hb d_M_putAll_138 (lv_at hl 7 rfl) ?_
                refine yn_if_le (a := v) (tgt := 204) hx hb d_M_putAll_140 (by decide) (by omega) (fun c140 => ?_) (fun c140 => ?_)
                · skip
                  refine lv_iload hx hb d_M_putAll_204 (lv_at hl 1 rfl) ?_
                  refine yn_if_ne (a := 1) (tgt := 228) hx hb d_M_putAll_206 (by decide) (by omega) (fun c206 => ?_) (fun c206 => ?_)
                  · skip
                    refine lv_iload hx hb d_M_putAll_228 (lv_at hl 1 rfl) ?_
                    refine yn_if_eq (a := 1) (tgt := 291) hx hb d_M_putAll_230 (by decide) (by omega) (fun c230 => ?_) (fun c230 => ?_)
                    · skip
                      exact absurd c230 (by decide)
                    · skip
                      exact J233 _ M2 D (nx + 2) (py + v) ((os1 ++ hdT K kd) ++ ([40] ++ ptsL dg (fun j => xy (8192 * s + j)) py v ++ [41])) oc1 (Nat.lt_succ_self _) (by first | exact hPI | (exfalso; omega)) (by omega) (by omega) (by first | (simp only [List.length_append, List.length_singleton, List.length_cons, List.length_nil]; omega) | (exfalso; omega)) (by omega) (by omega) _ _ _ hP hD hS (lv_sub hl [2, 3, 4, 5, 0, 1] (rfl))
                  · skip
                    exact absurd c206 (by decide)
                · skip
                  refine lv_iconst (v := nI 0) hx hb d_M_putAll_143 (by decide) ?_
                  refine lv_istore (lv' := [(9, .int (nI 0)), (4, .int (nI (py + v))), (8, .int (nI 1)), (0, .ref (h 0)), (1, .int (nI s)), (2, .int (nI D)), (3, .int (nI (4096 * s + (nx + 2)))), (6, .int (nI kd)), (7, .int (nI v))]) hx hb d_M_putAll_144 hl (by decide) rfl (fun ls hl => ?_)
                  exact J146 _ M 0 (nx + 2) (py + v) ((os1 ++ hdT K kd) ++ ([40] ++ ptsL dg (fun j => xy (8192 * s + j)) py v ++ [41])) (Nat.lt_succ_self _) (by first | exact p3 (by omega) (by omega) | (exfalso; omega)) (by omega) (by omega) (by omega) (by omega) (by first | (simp only [List.length_append, List.length_singleton, List.length_cons, List.length_nil]; omega) | (exfalso; omega)) _ _ _ hP hD hS (lv_sub hl [3, 4, 5, 6, 1, 7, 8, 2, 0] (rfl))
          · skip
            refine lv_aload_n hx hb d_M_putAll_92 rfl (lv_at hl 1 rfl) ?_
            refine lv_bipush (v := nI 8) hx hb d_M_putAll_93 (by decide) ?_
            refine y_callW (y_runV (As := [.int (nI 8)]) (rest := []) hx hb hml hown (c_M_putWord l G h dg mp ml th n t pl pn xy pt sz rs ou sl p fk fp va oa oc1 ok1 (os1 ++ hdT K kd) 8 (by first | omega | (simp only [List.length_append, List.length_singleton, List.length_cons, List.length_nil]; omega)) (by omega) (by omega)) (gV (n := 1) hg tk_903 tk_905 (gt_s 55 (by decide +kernel) (by decide +kernel)) tk_7 tk_906 (by decide +kernel) ⟨Nat.le_of_ble_eq_true rfl, Nat.le_of_ble_eq_true rfl⟩) (va_recv hK hP (ci := 5) (q0 := 0) rfl rfl) (y_preW hE hK hP hD hS hA) rfl rfl hl.1 rfl (lv_room (Nat.le_of_ble_eq_true rfl)) d_M_putAll_95 ⟨Nat.le_of_ble_eq_true rfl, Nat.le_of_ble_eq_true rfl⟩) hD hS hA (fun _ _ _ _ _ _ hp => False.elim hp) (fun v9 w9 H locs hp hlw hP hD hS => ?_)
            obtain ⟨rfl, rfl⟩ := hp
            have hP : va_P (gD G) vwC (wMW G h dg mp ml th n t pl pn xy pt sz rs ou sl p fk fp va oa oc1 ok1 ((os1 ++ hdT K kd) ++ wdL 8)) H := hP
            have hD : va_D A (wMW G h dg mp ml th n t pl pn xy pt sz rs ou sl p fk fp va oa oc1 ok1 ((os1 ++ hdT K kd) ++ wdL 8)) := hD
            refine W.eq (g2 := F0 mm 98 ls []) rfl ?_
            refine lv_goto (tgt := 132) hx hb d_M_putAll_98 (by decide) ?_
            refine lv_iload hx hb d_M_putAll_132 (lv_at hl 6 rfl) ?_
            refine lv_iconst (v := nI 3) hx hb d_M_putAll_134 (by decide) ?_
            refine yn_icmp_ne (a := kd) (b := 3) (tgt := 204) hx hb d_M_putAll_135 (by decide) (by omega) (by omega) (fun c135 => ?_) (fun c135 => ?_)
            · skip
              refine lv_iload hx hb d_M_putAll_204 (lv_at hl 0 rfl) ?_
              refine yn_if_ne (a := 1) (tgt := 228) hx hb d_M_putAll_206 (by decide) (by omega) (fun c206 => ?_) (fun c206 => ?_)
              · skip
                refine lv_iload hx hb d_M_putAll_228 (lv_at hl 0 rfl) ?_
                refine yn_if_eq (a := 1) (tgt := 291) hx hb d_M_putAll_230 (by decide) (by omega) (fun c230 => ?_) (fun c230 => ?_)
                · skip
                  exact absurd c230 (by decide)
                · skip
                  exact J233 _ M D (nx + 2) py ((os1 ++ hdT K kd) ++ wdL 8) oc1 (Nat.lt_succ_self _) (by first | exact p1 (by omega) | (exfalso; omega)) (by omega) (by omega) (by first | (simp only [List.length_append, List.length_singleton, List.length_cons, List.length_nil]; omega) | (exfalso; omega)) (by omega) (by omega) _ _ _ hP hD hS (lv_sub hl [1, 2, 3, 4, 5, 0] (rfl))
              · skip
                exact absurd c206 (by decide)
            · skip
              refine lv_iload hx hb d_M_putAll_138 (lv_at hl 7 rfl) ?_
              refine yn_if_le (a := v) (tgt := 204) hx hb d_M_putAll_140 (by decide) (by omega) (fun c140 => ?_) (fun c140 => ?_)
              · skip
                refine lv_iload hx hb d_M_putAll_204 (lv_at hl 0 rfl) ?_
                refine yn_if_ne (a := 1) (tgt := 228) hx hb d_M_putAll_206 (by decide) (by omega) (fun c206 => ?_) (fun c206 => ?_)
                · skip
                  refine lv_iload hx hb d_M_putAll_228 (lv_at hl 0 rfl) ?_
                  refine yn_if_eq (a := 1) (tgt := 291) hx hb d_M_putAll_230 (by decide) (by omega) (fun c230 => ?_) (fun c230 => ?_)
                  · skip
                    exact absurd c230 (by decide)
                  · skip
                    exact J233 _ M D (nx + 2) py ((os1 ++ hdT K kd) ++ wdL 8) oc1 (Nat.lt_succ_self _) (by first | exact p1 (by omega) | (exfalso; omega)) (by omega) (by omega) (by first | (simp only [List.length_append, List.length_singleton, List.length_cons, List.length_nil]; omega) | (exfalso; omega)) (by omega) (by omega) _ _ _ hP hD hS (lv_sub hl [1, 2, 3, 4, 5, 0] (rfl))
                · skip
                  exact absurd c206 (by decide)
              · skip
                refine lv_iconst (v := nI 0) hx hb d_M_putAll_143 (by decide) ?_
                refine lv_istore (lv' := [(9, .int (nI 0)), (8, .int (nI 1)), (0, .ref (h 0)), (1, .int (nI s)), (2, .int (nI D)), (3, .int (nI (4096 * s + (nx + 2)))), (4, .int (nI py)), (6, .int (nI kd)), (7, .int (nI v))]) hx hb d_M_putAll_144 hl (by decide) rfl (fun ls hl => ?_)
                exact J146 _ M 0 (nx + 2) py ((os1 ++ hdT K kd) ++ wdL 8) (Nat.lt_succ_self _) (by first | exact p3 (by omega) (by omega) | (exfalso; omega)) (by omega) (by omega) (by omega) (by omega) (by first | (simp only [List.length_append, List.length_singleton, List.length_cons, List.length_nil]; omega) | (exfalso; omega)) _ _ _ hP hD hS (lv_sub hl [2, 3, 4, 5, 6, 7, 8, 1, 0] (rfl))
        · skip
          refine lv_iload hx hb d_M_putAll_75 (lv_at hl 6 rfl) ?_
          refine yn_if_ne (a := v) (tgt := 84) hx hb d_M_putAll_77 (by decide) (by omega) (fun c77 => ?_) (fun c77 => ?_)
          · skip
            refine lv_iconst (v := nI 0) hx hb d_M_putAll_84 (by decide) ?_
            refine lv_istore (lv' := [(8, .int (nI 0)), (0, .ref (h 0)), (1, .int (nI s)), (2, .int (nI D)), (3, .int (nI (4096 * s + (nx + 2)))), (4, .int (nI py)), (6, .int (nI kd)), (7, .int (nI v))]) hx hb d_M_putAll_85 hl (by decide) rfl (fun ls hl => ?_)
            refine lv_iload hx hb d_M_putAll_87 (lv_at hl 7 rfl) ?_
            refine yn_if_ne (a := v) (tgt := 101) hx hb d_M_putAll_89 (by decide) (by omega) (fun c89 => ?_) (fun c89 => ?_)
            · skip
              refine lv_iload hx hb d_M_putAll_101 (lv_at hl 6 rfl) ?_
              refine lv_iconst (v := nI 3) hx hb d_M_putAll_103 (by decide) ?_
              refine yn_icmp_ge (a := kd) (b := 3) (tgt := 126) hx hb d_M_putAll_104 (by decide) (by omega) (by omega) (fun c104 => ?_) (fun c104 => ?_)
              · skip
                refine lv_aload_n hx hb d_M_putAll_126 rfl (lv_at hl 1 rfl) ?_
                refine lv_bipush (v := nI 40) hx hb d_M_putAll_127 (by decide) ?_
                refine y_callW (y_runV (As := [.int (nI 40)]) (rest := []) hx hb hml hown (c_M_put l G h dg mp ml th n t pl pn xy pt sz rs ou sl p fk fp va oa oc1 ok1 (os1 ++ hdT K kd) 40 (by first | omega | (simp only [List.length_append, List.length_singleton, List.length_cons, List.length_nil]; omega))) (gV (n := 1) hg tk_907 tk_909 (gt_s 56 (by decide +kernel) (by decide +kernel)) tk_7 tk_910 (by decide +kernel) ⟨Nat.le_of_ble_eq_true rfl, Nat.le_of_ble_eq_true rfl⟩) (va_recv hK hP (ci := 5) (q0 := 0) rfl rfl) (y_preW hE hK hP hD hS hA) rfl rfl hl.1 rfl (lv_room (Nat.le_of_ble_eq_true rfl)) d_M_putAll_129 ⟨Nat.le_of_ble_eq_true rfl, Nat.le_of_ble_eq_true rfl⟩) hD hS hA (fun _ _ _ _ _ _ hp => False.elim hp) (fun v9 w9 H locs hp hlw hP hD hS => ?_)
                obtain ⟨rfl, rfl⟩ := hp
                have hP : va_P (gD G) vwC (wMW G h dg mp ml th n t pl pn xy pt sz rs ou sl p fk fp va oa oc1 ok1 ((os1 ++ hdT K kd) ++ [40])) H := hP
                have hD : va_D A (wMW G h dg mp ml th n t pl pn xy pt sz rs ou sl p fk fp va oa oc1 ok1 ((os1 ++ hdT K kd) ++ [40])) := hD
                refine W.eq (g2 := F0 mm 132 ls []) rfl ?_
                refine lv_iload hx hb d_M_putAll_132 (lv_at hl 6 rfl) ?_
                refine lv_iconst (v := nI 3) hx hb d_M_putAll_134 (by decide) ?_
                refine yn_icmp_ne (a := kd) (b := 3) (tgt := 204) hx hb d_M_putAll_135 (by decide) (by omega) (by omega) (fun c135 => ?_) (fun c135 => ?_)
                · skip
                  refine lv_iload hx hb d_M_putAll_204 (lv_at hl 0 rfl) ?_
                  refine yn_if_ne (a := 0) (tgt := 228) hx hb d_M_putAll_206 (by decide) (by omega) (fun c206 => ?_) (fun c206 => ?_)
                  · skip
                    exact absurd c206 (by decide)
                  · skip
                    have hD5 := hD50 c72
                    refine lv_aload_n hx hb d_M_putAll_209 rfl (lv_at hl 1 rfl) ?_
                    refine va_get (D := gD G) (ci := 5) (v := .ref (h 12)) (C := "WordShapesModel") (T := TM) (N := 24) hx hb hg iw_M hown hK hP 0 rfl rfl 23 (by decide) (hg _ tk_706) (fun _ h9 => h9) rfl d_M_putAll_210 ?_
                    refine lv_iload_n hx hb d_M_putAll_213 rfl (lv_at hl 3 rfl) ?_
                    refine lv_iload hx hb d_M_putAll_214 (lv_at hl 6 rfl) ?_
                    refine yn_iast hx hb hK hP hD hS 12 0 rfl rfl (j := D) (x := nI kd) (f1 := upd ok1 D (nI kd)) (rfl) (by omega) (by omega) d_M_putAll_216 (fun H locs hP hD hS => ?_)
                    have hP : va_P (gD G) vwC (wMW G h dg mp ml th n t pl pn xy pt sz rs ou sl p fk fp va oa oc1 (upd ok1 D (nI kd)) ((os1 ++ hdT K kd) ++ [40])) H := hP
                    have hD : va_D A (wMW G h dg mp ml th n t pl pn xy pt sz rs ou sl p fk fp va oa oc1 (upd ok1 D (nI kd)) ((os1 ++ hdT K kd) ++ [40])) := hD
                    refine lv_aload_n hx hb d_M_putAll_217 rfl (lv_at hl 1 rfl) ?_
                    refine va_get (D := gD G) (ci := 5) (v := .ref (h 11)) (C := "WordShapesModel") (T := TM) (N := 24) hx hb hg iw_M hown hK hP 0 rfl rfl 22 (by decide) (hg _ tk_705) (fun _ h9 => h9) rfl d_M_putAll_218 ?_
                    refine lv_iload_n hx hb d_M_putAll_221 rfl (lv_at hl 3 rfl) ?_
                    refine lv_iload hx hb d_M_putAll_222 (lv_at hl 7 rfl) ?_
                    refine yn_iast hx hb hK hP hD hS 11 0 rfl rfl (j := D) (x := nI v) (f1 := upd oc1 D (nI v)) (rfl) (by omega) (by omega) d_M_putAll_224 (fun H locs hP hD hS => ?_)
                    have hP : va_P (gD G) vwC (wMW G h dg mp ml th n t pl pn xy pt sz rs ou sl p fk fp va oa (upd oc1 D (nI v)) (upd ok1 D (nI kd)) ((os1 ++ hdT K kd) ++ [40])) H := hP
                    have hD : va_D A (wMW G h dg mp ml th n t pl pn xy pt sz rs ou sl p fk fp va oa (upd oc1 D (nI v)) (upd ok1 D (nI kd)) ((os1 ++ hdT K kd) ++ [40])) := hD
                    refine lv_iinc (v := nI (D + 1)) (lv' := [(2, .int (nI (D + 1))), (8, .int (nI 0)), (0, .ref (h 0)), (1, .int (nI s)), (3, .int (nI (4096 * s + (nx + 2)))), (4, .int (nI py)), (6, .int (nI kd)), (7, .int (nI v))]) hx hb d_M_putAll_225 hl (k := 3) rfl (y_inc _) (by decide) rfl (fun ls hl => ?_)
                    refine lv_iload hx hb d_M_putAll_228 (lv_at hl 1 rfl) ?_
                    refine yn_if_eq (a := 0) (tgt := 291) hx hb d_M_putAll_230 (by decide) (by omega) (fun c230 => ?_) (fun c230 => ?_)
                    · skip
                      refine lv_iload hx hb d_M_putAll_291 (lv_at hl 1 rfl) ?_
                      refine yn_if_ne (a := 0) (tgt := 300) hx hb d_M_putAll_293 (by decide) (by omega) (fun c293 => ?_) (fun c293 => ?_)
                      · skip
                        exact absurd c293 (by decide)
                      · skip
                        refine lv_iconst (v := nI 1) hx hb d_M_putAll_296 (by decide) ?_
                        refine lv_goto (tgt := 301) hx hb d_M_putAll_297 (by decide) ?_
                        refine lv_istore (lv' := [(5, .int (nI 1)), (2, .int (nI (D + 1))), (8, .int (nI 0)), (0, .ref (h 0)), (1, .int (nI s)), (3, .int (nI (4096 * s + (nx + 2)))), (4, .int (nI py)), (6, .int (nI kd)), (7, .int (nI v))]) hx hb d_M_putAll_301 hl (by decide) rfl (fun ls hl => ?_)
                        refine lv_goto (tgt := 14) hx hb d_M_putAll_303 (by decide) ?_
                        refine lv_iload hx hb d_M_putAll_14 (lv_at hl 0 rfl) ?_
                        refine yn_if_eq (a := 1) (tgt := 306) hx hb d_M_putAll_16 (by decide) (by omega) (fun c16 => ?_) (fun c16 => ?_)
                        · skip
                          exact absurd c16 (by decide)
                        · skip
                          exact ih9 M (D + 1) (nx + 2) py ((os1 ++ hdT K kd) ++ [40]) (upd oc1 D (nI v)) (upd ok1 D (nI kd)) (by omega) (by first | exact p4 (by omega) (by omega) | (exfalso; omega)) (by omega) (by omega) (by first | (simp only [List.length_append, List.length_singleton, List.length_cons, List.length_nil]; omega) | (exfalso; omega)) _ _ _ hP hD hS (lv_sub hl [3, 4, 1, 5, 6] (rfl))
                    · skip
                      exact absurd c230 (by decide)
                · skip
                  exact absurd c135 (by omega)
              · skip
                obtain ⟨M2, hM2, hPI, hbd⟩ := p2 (by omega) c104
                have hpl := ptsL_len dg (fun j => xy (8192 * s + j)) py v
                have hpv := (hbd (v - 1) (by omega)).1
                refine lv_aload_n hx hb d_M_putAll_107 rfl (lv_at hl 1 rfl) ?_
                refine lv_iload_n hx hb d_M_putAll_108 rfl (lv_at hl 2 rfl) ?_
                refine lv_iload hx hb d_M_putAll_109 (lv_at hl 5 rfl) ?_
                refine lv_iload hx hb d_M_putAll_111 (lv_at hl 7 rfl) ?_
                refine y_callW (y_runV (As := [.int (nI s), .int (nI py), .int (nI v)]) (rest := []) hx hb hml hown (c_M_putPoints l G h dg mp ml th n t pl pn xy pt sz rs ou sl p fk fp va oa oc1 ok1 (os1 ++ hdT K kd) s py v (by omega) (by omega) (by omega) (fun j hj => (hbd j hj).2) (by first | omega | (simp only [List.length_append, List.length_singleton, List.length_cons, List.length_nil]; omega))) (gV (n := 3) hg tk_911 tk_913 (gt_s 57 (by decide +kernel) (by decide +kernel)) tk_7 tk_914 (by decide +kernel) ⟨Nat.le_of_ble_eq_true rfl, Nat.le_of_ble_eq_true rfl⟩) (va_recv hK hP (ci := 5) (q0 := 0) rfl rfl) (y_preW hE hK hP hD hS hA) rfl rfl hl.1 rfl (lv_room (Nat.le_of_ble_eq_true rfl)) d_M_putAll_113 ⟨Nat.le_of_ble_eq_true rfl, Nat.le_of_ble_eq_true rfl⟩) hD hS hA (fun _ _ _ _ _ _ hp => False.elim hp) (fun v9 w9 H locs hp hlw hP hD hS => ?_)
                obtain ⟨rfl, rfl⟩ := hp
                have hP : va_P (gD G) vwC (wMW G h dg mp ml th n t pl pn xy pt sz rs ou sl p fk fp va oa oc1 ok1 ((os1 ++ hdT K kd) ++ ([40] ++ ptsL dg (fun j => xy (8192 * s + j)) py v ++ [41]))) H := hP
                have hD : va_D A (wMW G h dg mp ml th n t pl pn xy pt sz rs ou sl p fk fp va oa oc1 ok1 ((os1 ++ hdT K kd) ++ ([40] ++ ptsL dg (fun j => xy (8192 * s + j)) py v ++ [41]))) := hD
                refine W.eq (g2 := F0 mm 116 ls []) rfl ?_
                refine lv_iload hx hb d_M_putAll_116 (lv_at hl 5 rfl) ?_
                refine lv_iload hx hb d_M_putAll_118 (lv_at hl 7 rfl) ?_
                refine lv_iadd hx hb d_M_putAll_120 ?_
                refine y_eqi (nI_add _ _) ?_
                refine lv_istore (lv' := [(4, .int (nI (py + v))), (8, .int (nI 0)), (0, .ref (h 0)), (1, .int (nI s)), (2, .int (nI D)), (3, .int (nI (4096 * s + (nx + 2)))), (6, .int (nI kd)), (7, .int (nI v))]) hx hb d_M_putAll_121 hl (by decide) rfl (fun ls hl => ?_)
                refine lv_goto (tgt := 132) hx hb d_M_putAll_123 (by decide) ?_
                refine lv_iload hx hb d_M_putAll_132 (lv_at hl 6 rfl) ?_
                refine lv_iconst (v := nI 3) hx hb d_M_putAll_134 (by decide) ?_
                refine yn_icmp_ne (a := kd) (b := 3) (tgt := 204) hx hb d_M_putAll_135 (by decide) (by omega) (by omega) (fun c135 => ?_) (fun c135 => ?_)
                · skip
                  refine lv_iload hx hb d_M_putAll_204 (lv_at hl 1 rfl) ?_
                  refine yn_if_ne (a := 0) (tgt := 228) hx hb d_M_putAll_206 (by decide) (by omega) (fun c206 => ?_) (fun c206 => ?_)
                  · skip
                    exact absurd c206 (by decide)
                  · skip
                    have hD5 := hD50 c72
                    refine lv_aload_n hx hb d_M_putAll_209 rfl (lv_at hl 2 rfl) ?_
                    refine va_get (D := gD G) (ci := 5) (v := .ref (h 12)) (C := "WordShapesModel") (T := TM) (N := 24) hx hb hg iw_M hown hK hP 0 rfl rfl 23 (by decide) (hg _ tk_706) (fun _ h9 => h9) rfl d_M_putAll_210 ?_
                    refine lv_iload_n hx hb d_M_putAll_213 rfl (lv_at hl 4 rfl) ?_
                    refine lv_iload hx hb d_M_putAll_214 (lv_at hl 6 rfl) ?_
                    refine yn_iast hx hb hK hP hD hS 12 0 rfl rfl (j := D) (x := nI kd) (f1 := upd ok1 D (nI kd)) (rfl) (by omega) (by omega) d_M_putAll_216 (fun H locs hP hD hS => ?_)
                    have hP : va_P (gD G) vwC (wMW G h dg mp ml th n t pl pn xy pt sz rs ou sl p fk fp va oa oc1 (upd ok1 D (nI kd)) ((os1 ++ hdT K kd) ++ ([40] ++ ptsL dg (fun j => xy (8192 * s + j)) py v ++ [41]))) H := hP
                    have hD : va_D A (wMW G h dg mp ml th n t pl pn xy pt sz rs ou sl p fk fp va oa oc1 (upd ok1 D (nI kd)) ((os1 ++ hdT K kd) ++ ([40] ++ ptsL dg (fun j => xy (8192 * s + j)) py v ++ [41]))) := hD
                    refine lv_aload_n hx hb d_M_putAll_217 rfl (lv_at hl 2 rfl) ?_
                    refine va_get (D := gD G) (ci := 5) (v := .ref (h 11)) (C := "WordShapesModel") (T := TM) (N := 24) hx hb hg iw_M hown hK hP 0 rfl rfl 22 (by decide) (hg _ tk_705) (fun _ h9 => h9) rfl d_M_putAll_218 ?_
                    refine lv_iload_n hx hb d_M_putAll_221 rfl (lv_at hl 4 rfl) ?_
                    refine lv_iload hx hb d_M_putAll_222 (lv_at hl 7 rfl) ?_
                    refine yn_iast hx hb hK hP hD hS 11 0 rfl rfl (j := D) (x := nI v) (f1 := upd oc1 D (nI v)) (rfl) (by omega) (by omega) d_M_putAll_224 (fun H locs hP hD hS => ?_)
                    have hP : va_P (gD G) vwC (wMW G h dg mp ml th n t pl pn xy pt sz rs ou sl p fk fp va oa (upd oc1 D (nI v)) (upd ok1 D (nI kd)) ((os1 ++ hdT K kd) ++ ([40] ++ ptsL dg (fun j => xy (8192 * s + j)) py v ++ [41]))) H := hP
                    have hD : va_D A (wMW G h dg mp ml th n t pl pn xy pt sz rs ou sl p fk fp va oa (upd oc1 D (nI v)) (upd ok1 D (nI kd)) ((os1 ++ hdT K kd) ++ ([40] ++ ptsL dg (fun j => xy (8192 * s + j)) py v ++ [41]))) := hD
                    refine lv_iinc (v := nI (D + 1)) (lv' := [(2, .int (nI (D + 1))), (4, .int (nI (py + v))), (8, .int (nI 0)), (0, .ref (h 0)), (1, .int (nI s)), (3, .int (nI (4096 * s + (nx + 2)))), (6, .int (nI kd)), (7, .int (nI v))]) hx hb d_M_putAll_225 hl (k := 4) rfl (y_inc _) (by decide) rfl (fun ls hl => ?_)
                    refine lv_iload hx hb d_M_putAll_228 (lv_at hl 2 rfl) ?_
                    refine yn_if_eq (a := 0) (tgt := 291) hx hb d_M_putAll_230 (by decide) (by omega) (fun c230 => ?_) (fun c230 => ?_)
                    · skip
                      refine lv_iload hx hb d_M_putAll_291 (lv_at hl 2 rfl) ?_
                      refine yn_if_ne (a := 0) (tgt := 300) hx hb d_M_putAll_293 (by decide) (by omega) (fun c293 => ?_) (fun c293 => ?_)
                      · skip
                        exact absurd c293 (by decide)
                      · skip
                        refine lv_iconst (v := nI 1) hx hb d_M_putAll_296 (by decide) ?_
                        refine lv_goto (tgt := 301) hx hb d_M_putAll_297 (by decide) ?_
                        refine lv_istore (lv' := [(5, .int (nI 1)), (2, .int (nI (D + 1))), (4, .int (nI (py + v))), (8, .int (nI 0)), (0, .ref (h 0)), (1, .int (nI s)), (3, .int (nI (4096 * s + (nx + 2)))), (6, .int (nI kd)), (7, .int (nI v))]) hx hb d_M_putAll_301 hl (by decide) rfl (fun ls hl => ?_)
                        refine lv_goto (tgt := 14) hx hb d_M_putAll_303 (by decide) ?_
                        refine lv_iload hx hb d_M_putAll_14 (lv_at hl 0 rfl) ?_
                        refine yn_if_eq (a := 1) (tgt := 306) hx hb d_M_putAll_16 (by decide) (by omega) (fun c16 => ?_) (fun c16 => ?_)
                        · skip
                          exact absurd c16 (by decide)
                        · skip
                          exact ih9 M (D + 1) (nx + 2) (py + v) ((os1 ++ hdT K kd) ++ ([40] ++ ptsL dg (fun j => xy (8192 * s + j)) py v ++ [41])) (upd oc1 D (nI v)) (upd ok1 D (nI kd)) (by omega) (by first | exact p4 (by omega) (by omega) | (exfalso; omega)) (by omega) (by omega) (by first | (simp only [List.length_append, List.length_singleton, List.length_cons, List.length_nil]; omega) | (exfalso; omega)) _ _ _ hP hD hS (lv_sub hl [4, 5, 1, 6, 2] (rfl))
                    · skip
                      exact absurd c230 (by decide)
                · skip
                  exact absurd c135 (by omega)
            · skip
              refine lv_aload_n hx hb d_M_putAll_92 rfl (lv_at hl 1 rfl) ?_
              refine lv_bipush (v := nI 8) hx hb d_M_putAll_93 (by decide) ?_
              refine y_callW (y_runV (As := [.int (nI 8)]) (rest := []) hx hb hml hown (c_M_putWord l G h dg mp ml th n t pl pn xy pt sz rs ou sl p fk fp va oa oc1 ok1 (os1 ++ hdT K kd) 8 (by first | omega | (simp only [List.length_append, List.length_singleton, List.length_cons, List.length_nil]; omega)) (by omega) (by omega)) (gV (n := 1) hg tk_903 tk_905 (gt_s 55 (by decide +kernel) (by decide +kernel)) tk_7 tk_906 (by decide +kernel) ⟨Nat.le_of_ble_eq_true rfl, Nat.le_of_ble_eq_true rfl⟩) (va_recv hK hP (ci := 5) (q0 := 0) rfl rfl) (y_preW hE hK hP hD hS hA) rfl rfl hl.1 rfl (lv_room (Nat.le_of_ble_eq_true rfl)) d_M_putAll_95 ⟨Nat.le_of_ble_eq_true rfl, Nat.le_of_ble_eq_true rfl⟩) hD hS hA (fun _ _ _ _ _ _ hp => False.elim hp) (fun v9 w9 H locs hp hlw hP hD hS => ?_)
              obtain ⟨rfl, rfl⟩ := hp
              have hP : va_P (gD G) vwC (wMW G h dg mp ml th n t pl pn xy pt sz rs ou sl p fk fp va oa oc1 ok1 ((os1 ++ hdT K kd) ++ wdL 8)) H := hP
              have hD : va_D A (wMW G h dg mp ml th n t pl pn xy pt sz rs ou sl p fk fp va oa oc1 ok1 ((os1 ++ hdT K kd) ++ wdL 8)) := hD
              refine W.eq (g2 := F0 mm 98 ls []) rfl ?_
              refine lv_goto (tgt := 132) hx hb d_M_putAll_98 (by decide) ?_
              refine lv_iload hx hb d_M_putAll_132 (lv_at hl 6 rfl) ?_
              refine lv_iconst (v := nI 3) hx hb d_M_putAll_134 (by decide) ?_
              refine yn_icmp_ne (a := kd) (b := 3) (tgt := 204) hx hb d_M_putAll_135 (by decide) (by omega) (by omega) (fun c135 => ?_) (fun c135 => ?_)
              · skip
                refine lv_iload hx hb d_M_putAll_204 (lv_at hl 0 rfl) ?_
                refine yn_if_ne (a := 0) (tgt := 228) hx hb d_M_putAll_206 (by decide) (by omega) (fun c206 => ?_) (fun c206 => ?_)
                · skip
                  exact absurd c206 (by decide)
                · skip
                  have hD5 := hD50 c72
                  refine lv_aload_n hx hb d_M_putAll_209 rfl (lv_at hl 1 rfl) ?_
                  refine va_get (D := gD G) (ci := 5) (v := .ref (h 12)) (C := "WordShapesModel") (T := TM) (N := 24) hx hb hg iw_M hown hK hP 0 rfl rfl 23 (by decide) (hg _ tk_706) (fun _ h9 => h9) rfl d_M_putAll_210 ?_
                  refine lv_iload_n hx hb d_M_putAll_213 rfl (lv_at hl 3 rfl) ?_
                  refine lv_iload hx hb d_M_putAll_214 (lv_at hl 6 rfl) ?_
                  refine yn_iast hx hb hK hP hD hS 12 0 rfl rfl (j := D) (x := nI kd) (f1 := upd ok1 D (nI kd)) (rfl) (by omega) (by omega) d_M_putAll_216 (fun H locs hP hD hS => ?_)
                  have hP : va_P (gD G) vwC (wMW G h dg mp ml th n t pl pn xy pt sz rs ou sl p fk fp va oa oc1 (upd ok1 D (nI kd)) ((os1 ++ hdT K kd) ++ wdL 8)) H := hP
                  have hD : va_D A (wMW G h dg mp ml th n t pl pn xy pt sz rs ou sl p fk fp va oa oc1 (upd ok1 D (nI kd)) ((os1 ++ hdT K kd) ++ wdL 8)) := hD
                  refine lv_aload_n hx hb d_M_putAll_217 rfl (lv_at hl 1 rfl) ?_
                  refine va_get (D := gD G) (ci := 5) (v := .ref (h 11)) (C := "WordShapesModel") (T := TM) (N := 24) hx hb hg iw_M hown hK hP 0 rfl rfl 22 (by decide) (hg _ tk_705) (fun _ h9 => h9) rfl d_M_putAll_218 ?_
                  refine lv_iload_n hx hb d_M_putAll_221 rfl (lv_at hl 3 rfl) ?_
                  refine lv_iload hx hb d_M_putAll_222 (lv_at hl 7 rfl) ?_
                  refine yn_iast hx hb hK hP hD hS 11 0 rfl rfl (j := D) (x := nI v) (f1 := upd oc1 D (nI v)) (rfl) (by omega) (by omega) d_M_putAll_224 (fun H locs hP hD hS => ?_)
                  have hP : va_P (gD G) vwC (wMW G h dg mp ml th n t pl pn xy pt sz rs ou sl p fk fp va oa (upd oc1 D (nI v)) (upd ok1 D (nI kd)) ((os1 ++ hdT K kd) ++ wdL 8)) H := hP
                  have hD : va_D A (wMW G h dg mp ml th n t pl pn xy pt sz rs ou sl p fk fp va oa (upd oc1 D (nI v)) (upd ok1 D (nI kd)) ((os1 ++ hdT K kd) ++ wdL 8)) := hD
                  refine lv_iinc (v := nI (D + 1)) (lv' := [(2, .int (nI (D + 1))), (8, .int (nI 0)), (0, .ref (h 0)), (1, .int (nI s)), (3, .int (nI (4096 * s + (nx + 2)))), (4, .int (nI py)), (6, .int (nI kd)), (7, .int (nI v))]) hx hb d_M_putAll_225 hl (k := 3) rfl (y_inc _) (by decide) rfl (fun ls hl => ?_)
                  refine lv_iload hx hb d_M_putAll_228 (lv_at hl 1 rfl) ?_
                  refine yn_if_eq (a := 0) (tgt := 291) hx hb d_M_putAll_230 (by decide) (by omega) (fun c230 => ?_) (fun c230 => ?_)
                  · skip
                    refine lv_iload hx hb d_M_putAll_291 (lv_at hl 1 rfl) ?_
                    refine yn_if_ne (a := 0) (tgt := 300) hx hb d_M_putAll_293 (by decide) (by omega) (fun c293 => ?_) (fun c293 => ?_)
                    · skip
                      exact absurd c293 (by decide)
                    · skip
                      refine lv_iconst (v := nI 1) hx hb d_M_putAll_296 (by decide) ?_
                      refine lv_goto (tgt := 301) hx hb d_M_putAll_297 (by decide) ?_
                      refine lv_istore (lv' := [(5, .int (nI 1)), (2, .int (nI (D + 1))), (8, .int (nI 0)), (0, .ref (h 0)), (1, .int (nI s)), (3, .int (nI (4096 * s + (nx + 2)))), (4, .int (nI py)), (6, .int (nI kd)), (7, .int (nI v))]) hx hb d_M_putAll_301 hl (by decide) rfl (fun ls hl => ?_)
                      refine lv_goto (tgt := 14) hx hb d_M_putAll_303 (by decide) ?_
                      refine lv_iload hx hb d_M_putAll_14 (lv_at hl 0 rfl) ?_
                      refine yn_if_eq (a := 1) (tgt := 306) hx hb d_M_putAll_16 (by decide) (by omega) (fun c16 => ?_) (fun c16 => ?_)
                      · skip
                        exact absurd c16 (by decide)
                      · skip
                        exact ih9 M (D + 1) (nx + 2) py ((os1 ++ hdT K kd) ++ wdL 8) (upd oc1 D (nI v)) (upd ok1 D (nI kd)) (by omega) (by first | exact p4 (by omega) (by omega) | (exfalso; omega)) (by omega) (by omega) (by first | (simp only [List.length_append, List.length_singleton, List.length_cons, List.length_nil]; omega) | (exfalso; omega)) _ _ _ hP hD hS (lv_sub hl [3, 4, 1, 5, 6] (rfl))
                  · skip
                    exact absurd c230 (by decide)
              · skip
                exact absurd c135 (by omega)
          · skip
            refine lv_iconst (v := nI 1) hx hb d_M_putAll_80 (by decide) ?_
            refine lv_goto (tgt := 85) hx hb d_M_putAll_81 (by decide) ?_
            refine lv_istore (lv' := [(8, .int (nI 1)), (0, .ref (h 0)), (1, .int (nI s)), (2, .int (nI D)), (3, .int (nI (4096 * s + (nx + 2)))), (4, .int (nI py)), (6, .int (nI kd)), (7, .int (nI v))]) hx hb d_M_putAll_85 hl (by decide) rfl (fun ls hl => ?_)
            refine lv_iload hx hb d_M_putAll_87 (lv_at hl 7 rfl) ?_
            refine yn_if_ne (a := v) (tgt := 101) hx hb d_M_putAll_89 (by decide) (by omega) (fun c89 => ?_) (fun c89 => ?_)
            · skip
              refine lv_iload hx hb d_M_putAll_101 (lv_at hl 6 rfl) ?_
              refine lv_iconst (v := nI 3) hx hb d_M_putAll_103 (by decide) ?_
              refine yn_icmp_ge (a := kd) (b := 3) (tgt := 126) hx hb d_M_putAll_104 (by decide) (by omega) (by omega) (fun c104 => ?_) (fun c104 => ?_)
              · skip
                refine lv_aload_n hx hb d_M_putAll_126 rfl (lv_at hl 1 rfl) ?_
                refine lv_bipush (v := nI 40) hx hb d_M_putAll_127 (by decide) ?_
                refine y_callW (y_runV (As := [.int (nI 40)]) (rest := []) hx hb hml hown (c_M_put l G h dg mp ml th n t pl pn xy pt sz rs ou sl p fk fp va oa oc1 ok1 (os1 ++ hdT K kd) 40 (by first | omega | (simp only [List.length_append, List.length_singleton, List.length_cons, List.length_nil]; omega))) (gV (n := 1) hg tk_907 tk_909 (gt_s 56 (by decide +kernel) (by decide +kernel)) tk_7 tk_910 (by decide +kernel) ⟨Nat.le_of_ble_eq_true rfl, Nat.le_of_ble_eq_true rfl⟩) (va_recv hK hP (ci := 5) (q0 := 0) rfl rfl) (y_preW hE hK hP hD hS hA) rfl rfl hl.1 rfl (lv_room (Nat.le_of_ble_eq_true rfl)) d_M_putAll_129 ⟨Nat.le_of_ble_eq_true rfl, Nat.le_of_ble_eq_true rfl⟩) hD hS hA (fun _ _ _ _ _ _ hp => False.elim hp) (fun v9 w9 H locs hp hlw hP hD hS => ?_)
                obtain ⟨rfl, rfl⟩ := hp
                have hP : va_P (gD G) vwC (wMW G h dg mp ml th n t pl pn xy pt sz rs ou sl p fk fp va oa oc1 ok1 ((os1 ++ hdT K kd) ++ [40])) H := hP
                have hD : va_D A (wMW G h dg mp ml th n t pl pn xy pt sz rs ou sl p fk fp va oa oc1 ok1 ((os1 ++ hdT K kd) ++ [40])) := hD
                refine W.eq (g2 := F0 mm 132 ls []) rfl ?_
                refine lv_iload hx hb d_M_putAll_132 (lv_at hl 6 rfl) ?_
                refine lv_iconst (v := nI 3) hx hb d_M_putAll_134 (by decide) ?_
                refine yn_icmp_ne (a := kd) (b := 3) (tgt := 204) hx hb d_M_putAll_135 (by decide) (by omega) (by omega) (fun c135 => ?_) (fun c135 => ?_)
                · skip
                  refine lv_iload hx hb d_M_putAll_204 (lv_at hl 0 rfl) ?_
                  refine yn_if_ne (a := 1) (tgt := 228) hx hb d_M_putAll_206 (by decide) (by omega) (fun c206 => ?_) (fun c206 => ?_)
                  · skip
                    refine lv_iload hx hb d_M_putAll_228 (lv_at hl 0 rfl) ?_
                    refine yn_if_eq (a := 1) (tgt := 291) hx hb d_M_putAll_230 (by decide) (by omega) (fun c230 => ?_) (fun c230 => ?_)
                    · skip
                      exact absurd c230 (by decide)
                    · skip
                      exact J233 _ M D (nx + 2) py ((os1 ++ hdT K kd) ++ [40]) oc1 (Nat.lt_succ_self _) (by first | exact p1 (by omega) | (exfalso; omega)) (by omega) (by omega) (by first | (simp only [List.length_append, List.length_singleton, List.length_cons, List.length_nil]; omega) | (exfalso; omega)) (by omega) (by omega) _ _ _ hP hD hS (lv_sub hl [1, 2, 3, 4, 5, 0] (rfl))
                  · skip
                    exact absurd c206 (by decide)
                · skip
                  refine lv_iload hx hb d_M_putAll_138 (lv_at hl 7 rfl) ?_
                  refine yn_if_le (a := v) (tgt := 204) hx hb d_M_putAll_140 (by decide) (by omega) (fun c140 => ?_) (fun c140 => ?_)
                  · skip
                    refine lv_iload hx hb d_M_putAll_204 (lv_at hl 0 rfl) ?_
                    refine yn_if_ne (a := 1) (tgt := 228) hx hb d_M_putAll_206 (by decide) (by omega) (fun c206 => ?_) (fun c206 => ?_)
                    · skip
                      refine lv_iload hx hb d_M_putAll_228 (lv_at hl 0 rfl) ?_
                      refine yn_if_eq (a := 1) (tgt := 291) hx hb d_M_putAll_230 (by decide) (by omega) (fun c230 => ?_) (fun c230 => ?_)
                      · skip
                        exact absurd c230 (by decide)
                      · skip
                        exact J233 _ M D (nx + 2) py ((os1 ++ hdT K kd) ++ [40]) oc1 (Nat.lt_succ_self _) (by first | exact p1 (by omega) | (exfalso; omega)) (by omega) (by omega) (by first | (simp only [List.length_append, List.length_singleton, List.length_cons, List.length_nil]; omega) | (exfalso; omega)) (by omega) (by omega) _ _ _ hP hD hS (lv_sub hl [1, 2, 3, 4, 5, 0] (rfl))
                    · skip
                      exact absurd c206 (by decide)
                  · skip
                    refine lv_iconst (v := nI 0) hx hb d_M_putAll_143 (by decide) ?_
                    refine lv_istore (lv' := [(9, .int (nI 0)), (8, .int (nI 1)), (0, .ref (h 0)), (1, .int (nI s)), (2, .int (nI D)), (3, .int (nI (4096 * s + (nx + 2)))), (4, .int (nI py)), (6, .int (nI kd)), (7, .int (nI v))]) hx hb d_M_putAll_144 hl (by decide) rfl (fun ls hl => ?_)
                    exact J146 _ M 0 (nx + 2) py ((os1 ++ hdT K kd) ++ [40]) (Nat.lt_succ_self _) (by first | exact p3 (by omega) (by omega) | (exfalso; omega)) (by omega) (by omega) (by omega) (by omega) (by first | (simp only [List.length_append, List.length_singleton, List.length_cons, List.length_nil]; omega) | (exfalso; omega)) _ _ _ hP hD hS (lv_sub hl [2, 3, 4, 5, 6, 7, 8, 1, 0] (rfl))
              · skip
                obtain ⟨M2, hM2, hPI, hbd⟩ := p2 (by omega) c104
                have hpl := ptsL_len dg (fun j => xy (8192 * s + j)) py v
                have hpv := (hbd (v - 1) (by omega)).1
                refine lv_aload_n hx hb d_M_putAll_107 rfl (lv_at hl 1 rfl) ?_
                refine lv_iload_n hx hb d_M_putAll_108 rfl (lv_at hl 2 rfl) ?_
                refine lv_iload hx hb d_M_putAll_109 (lv_at hl 5 rfl) ?_
                refine lv_iload hx hb d_M_putAll_111 (lv_at hl 7 rfl) ?_
                refine y_callW (y_runV (As := [.int (nI s), .int (nI py), .int (nI v)]) (rest := []) hx hb hml hown (c_M_putPoints l G h dg mp ml th n t pl pn xy pt sz rs ou sl p fk fp va oa oc1 ok1 (os1 ++ hdT K kd) s py v (by omega) (by omega) (by omega) (fun j hj => (hbd j hj).2) (by first | omega | (simp only [List.length_append, List.length_singleton, List.length_cons, List.length_nil]; omega))) (gV (n := 3) hg tk_911 tk_913 (gt_s 57 (by decide +kernel) (by decide +kernel)) tk_7 tk_914 (by decide +kernel) ⟨Nat.le_of_ble_eq_true rfl, Nat.le_of_ble_eq_true rfl⟩) (va_recv hK hP (ci := 5) (q0 := 0) rfl rfl) (y_preW hE hK hP hD hS hA) rfl rfl hl.1 rfl (lv_room (Nat.le_of_ble_eq_true rfl)) d_M_putAll_113 ⟨Nat.le_of_ble_eq_true rfl, Nat.le_of_ble_eq_true rfl⟩) hD hS hA (fun _ _ _ _ _ _ hp => False.elim hp) (fun v9 w9 H locs hp hlw hP hD hS => ?_)
                obtain ⟨rfl, rfl⟩ := hp
                have hP : va_P (gD G) vwC (wMW G h dg mp ml th n t pl pn xy pt sz rs ou sl p fk fp va oa oc1 ok1 ((os1 ++ hdT K kd) ++ ([40] ++ ptsL dg (fun j => xy (8192 * s + j)) py v ++ [41]))) H := hP
                have hD : va_D A (wMW G h dg mp ml th n t pl pn xy pt sz rs ou sl p fk fp va oa oc1 ok1 ((os1 ++ hdT K kd) ++ ([40] ++ ptsL dg (fun j => xy (8192 * s + j)) py v ++ [41]))) := hD
                refine W.eq (g2 := F0 mm 116 ls []) rfl ?_
                refine lv_iload hx hb d_M_putAll_116 (lv_at hl 5 rfl) ?_
                refine lv_iload hx hb d_M_putAll_118 (lv_at hl 7 rfl) ?_
                refine lv_iadd hx hb d_M_putAll_120 ?_
                refine y_eqi (nI_add _ _) ?_
                refine lv_istore (lv' := [(4, .int (nI (py + v))), (8, .int (nI 1)), (0, .ref (h 0)), (1, .int (nI s)), (2, .int (nI D)), (3, .int (nI (4096 * s + (nx + 2)))), (6, .int (nI kd)), (7, .int (nI v))]) hx hb d_M_putAll_121 hl (by decide) rfl (fun ls hl => ?_)
                refine lv_goto (tgt := 132) hx hb d_M_putAll_123 (by decide) ?_
                refine lv_iload hx hb d_M_putAll_132 (lv_at hl 6 rfl) ?_
                refine lv_iconst (v := nI 3) hx hb d_M_putAll_134 (by decide) ?_
                refine yn_icmp_ne (a := kd) (b := 3) (tgt := 204) hx hb d_M_putAll_135 (by decide) (by omega) (by omega) (fun c135 => ?_) (fun c135 => ?_)
                · skip
                  refine lv_iload hx hb d_M_putAll_204 (lv_at hl 1 rfl) ?_
                  refine yn_if_ne (a := 1) (tgt := 228) hx hb d_M_putAll_206 (by decide) (by omega) (fun c206 => ?_) (fun c206 => ?_)
                  · skip
                    refine lv_iload hx hb d_M_putAll_228 (lv_at hl 1 rfl) ?_
                    refine yn_if_eq (a := 1) (tgt := 291) hx hb d_M_putAll_230 (by decide) (by omega) (fun c230 => ?_) (fun c230 => ?_)
                    · skip
                      exact absurd c230 (by decide)
                    · skip
                      exact J233 _ M2 D (nx + 2) (py + v) ((os1 ++ hdT K kd) ++ ([40] ++ ptsL dg (fun j => xy (8192 * s + j)) py v ++ [41])) oc1 (Nat.lt_succ_self _) (by first | exact hPI | (exfalso; omega)) (by omega) (by omega) (by first | (simp only [List.length_append, List.length_singleton, List.length_cons, List.length_nil]; omega) | (exfalso; omega)) (by omega) (by omega) _ _ _ hP hD hS (lv_sub hl [2, 3, 4, 5, 0, 1] (rfl))
                  · skip
                    exact absurd c206 (by decide)
                · skip
                  refine lv_iload hx hb d_M_putAll_138 (lv_at hl 7 rfl) ?_
                  refine yn_if_le (a := v) (tgt := 204) hx hb d_M_putAll_140 (by decide) (by omega) (fun c140 => ?_) (fun c140 => ?_)
                  · skip
                    refine lv_iload hx hb d_M_putAll_204 (lv_at hl 1 rfl) ?_
                    refine yn_if_ne (a := 1) (tgt := 228) hx hb d_M_putAll_206 (by decide) (by omega) (fun c206 => ?_) (fun c206 => ?_)
                    · skip
                      refine lv_iload hx hb d_M_putAll_228 (lv_at hl 1 rfl) ?_
                      refine yn_if_eq (a := 1) (tgt := 291) hx hb d_M_putAll_230 (by decide) (by omega) (fun c230 => ?_) (fun c230 => ?_)
                      · skip
                        exact absurd c230 (by decide)
                      · skip
                        exact J233 _ M2 D (nx + 2) (py + v) ((os1 ++ hdT K kd) ++ ([40] ++ ptsL dg (fun j => xy (8192 * s + j)) py v ++ [41])) oc1 (Nat.lt_succ_self _) (by first | exact hPI | (exfalso; omega)) (by omega) (by omega) (by first | (simp only [List.length_append, List.length_singleton, List.length_cons, List.length_nil]; omega) | (exfalso; omega)) (by omega) (by omega) _ _ _ hP hD hS (lv_sub hl [2, 3, 4, 5, 0, 1] (rfl))
                    · skip
                      exact absurd c206 (by decide)
                  · skip
                    refine lv_iconst (v := nI 0) hx hb d_M_putAll_143 (by decide) ?_
                    refine lv_istore (lv' := [(9, .int (nI 0)), (4, .int (nI (py + v))), (8, .int (nI 1)), (0, .ref (h 0)), (1, .int (nI s)), (2, .int (nI D)), (3, .int (nI (4096 * s + (nx + 2)))), (6, .int (nI kd)), (7, .int (nI v))]) hx hb d_M_putAll_144 hl (by decide) rfl (fun ls hl => ?_)
                    exact J146 _ M 0 (nx + 2) (py + v) ((os1 ++ hdT K kd) ++ ([40] ++ ptsL dg (fun j => xy (8192 * s + j)) py v ++ [41])) (Nat.lt_succ_self _) (by first | exact p3 (by omega) (by omega) | (exfalso; omega)) (by omega) (by omega) (by omega) (by omega) (by first | (simp only [List.length_append, List.length_singleton, List.length_cons, List.length_nil]; omega) | (exfalso; omega)) _ _ _ hP hD hS (lv_sub hl [3, 4, 5, 6, 1, 7, 8, 2, 0] (rfl))
            · skip
              refine lv_aload_n hx hb d_M_putAll_92 rfl (lv_at hl 1 rfl) ?_
              refine lv_bipush (v := nI 8) hx hb d_M_putAll_93 (by decide) ?_
              refine y_callW (y_runV (As := [.int (nI 8)]) (rest := []) hx hb hml hown (c_M_putWord l G h dg mp ml th n t pl pn xy pt sz rs ou sl p fk fp va oa oc1 ok1 (os1 ++ hdT K kd) 8 (by first | omega | (simp only [List.length_append, List.length_singleton, List.length_cons, List.length_nil]; omega)) (by omega) (by omega)) (gV (n := 1) hg tk_903 tk_905 (gt_s 55 (by decide +kernel) (by decide +kernel)) tk_7 tk_906 (by decide +kernel) ⟨Nat.le_of_ble_eq_true rfl, Nat.le_of_ble_eq_true rfl⟩) (va_recv hK hP (ci := 5) (q0 := 0) rfl rfl) (y_preW hE hK hP hD hS hA) rfl rfl hl.1 rfl (lv_room (Nat.le_of_ble_eq_true rfl)) d_M_putAll_95 ⟨Nat.le_of_ble_eq_true rfl, Nat.le_of_ble_eq_true rfl⟩) hD hS hA (fun _ _ _ _ _ _ hp => False.elim hp) (fun v9 w9 H locs hp hlw hP hD hS => ?_)
              obtain ⟨rfl, rfl⟩ := hp
              have hP : va_P (gD G) vwC (wMW G h dg mp ml th n t pl pn xy pt sz rs ou sl p fk fp va oa oc1 ok1 ((os1 ++ hdT K kd) ++ wdL 8)) H := hP
              have hD : va_D A (wMW G h dg mp ml th n t pl pn xy pt sz rs ou sl p fk fp va oa oc1 ok1 ((os1 ++ hdT K kd) ++ wdL 8)) := hD
              refine W.eq (g2 := F0 mm 98 ls []) rfl ?_
              refine lv_goto (tgt := 132) hx hb d_M_putAll_98 (by decide) ?_
              refine lv_iload hx hb d_M_putAll_132 (lv_at hl 6 rfl) ?_
              refine lv_iconst (v := nI 3) hx hb d_M_putAll_134 (by decide) ?_
              refine yn_icmp_ne (a := kd) (b := 3) (tgt := 204) hx hb d_M_putAll_135 (by decide) (by omega) (by omega) (fun c135 => ?_) (fun c135 => ?_)
              · skip
                refine lv_iload hx hb d_M_putAll_204 (lv_at hl 0 rfl) ?_
                refine yn_if_ne (a := 1) (tgt := 228) hx hb d_M_putAll_206 (by decide) (by omega) (fun c206 => ?_) (fun c206 => ?_)
                · skip
                  refine lv_iload hx hb d_M_putAll_228 (lv_at hl 0 rfl) ?_
                  refine yn_if_eq (a := 1) (tgt := 291) hx hb d_M_putAll_230 (by decide) (by omega) (fun c230 => ?_) (fun c230 => ?_)
                  · skip
                    exact absurd c230 (by decide)
                  · skip
                    exact J233 _ M D (nx + 2) py ((os1 ++ hdT K kd) ++ wdL 8) oc1 (Nat.lt_succ_self _) (by first | exact p1 (by omega) | (exfalso; omega)) (by omega) (by omega) (by first | (simp only [List.length_append, List.length_singleton, List.length_cons, List.length_nil]; omega) | (exfalso; omega)) (by omega) (by omega) _ _ _ hP hD hS (lv_sub hl [1, 2, 3, 4, 5, 0] (rfl))
                · skip
                  exact absurd c206 (by decide)
              · skip
                refine lv_iload hx hb d_M_putAll_138 (lv_at hl 7 rfl) ?_
                refine yn_if_le (a := v) (tgt := 204) hx hb d_M_putAll_140 (by decide) (by omega) (fun c140 => ?_) (fun c140 => ?_)
                · skip
                  refine lv_iload hx hb d_M_putAll_204 (lv_at hl 0 rfl) ?_
                  refine yn_if_ne (a := 1) (tgt := 228) hx hb d_M_putAll_206 (by decide) (by omega) (fun c206 => ?_) (fun c206 => ?_)
                  · skip
                    refine lv_iload hx hb d_M_putAll_228 (lv_at hl 0 rfl) ?_
                    refine yn_if_eq (a := 1) (tgt := 291) hx hb d_M_putAll_230 (by decide) (by omega) (fun c230 => ?_) (fun c230 => ?_)
                    · skip
                      exact absurd c230 (by decide)
                    · skip
                      exact J233 _ M D (nx + 2) py ((os1 ++ hdT K kd) ++ wdL 8) oc1 (Nat.lt_succ_self _) (by first | exact p1 (by omega) | (exfalso; omega)) (by omega) (by omega) (by first | (simp only [List.length_append, List.length_singleton, List.length_cons, List.length_nil]; omega) | (exfalso; omega)) (by omega) (by omega) _ _ _ hP hD hS (lv_sub hl [1, 2, 3, 4, 5, 0] (rfl))
                  · skip
                    exact absurd c206 (by decide)
                · skip
                  refine lv_iconst (v := nI 0) hx hb d_M_putAll_143 (by decide) ?_
                  refine lv_istore (lv' := [(9, .int (nI 0)), (8, .int (nI 1)), (0, .ref (h 0)), (1, .int (nI s)), (2, .int (nI D)), (3, .int (nI (4096 * s + (nx + 2)))), (4, .int (nI py)), (6, .int (nI kd)), (7, .int (nI v))]) hx hb d_M_putAll_144 hl (by decide) rfl (fun ls hl => ?_)
                  exact J146 _ M 0 (nx + 2) py ((os1 ++ hdT K kd) ++ wdL 8) (Nat.lt_succ_self _) (by first | exact p3 (by omega) (by omega) | (exfalso; omega)) (by omega) (by omega) (by omega) (by omega) (by first | (simp only [List.length_append, List.length_singleton, List.length_cons, List.length_nil]; omega) | (exfalso; omega)) _ _ _ hP hD hS (lv_sub hl [2, 3, 4, 5, 6, 7, 8, 1, 0] (rfl))
      refine lv_aload_n hx hb d_M_putAll_19 rfl (lv_at hl 0 rfl) ?_
      refine va_get (D := gD G) (ci := 5) (v := .ref (h 4)) (C := "WordShapesModel") (T := TM) (N := 24) hx hb hg iw_M hown hK hP 0 rfl rfl 8 (by decide) (hg _ tk_691) (fun _ h9 => h9) rfl d_M_putAll_20 ?_
      refine lv_iload_n hx hb d_M_putAll_23 rfl (lv_at hl 3 rfl) ?_
      refine yn_iald hx hb hK hP 4 0 rfl rfl (j := 4096 * s + nx) (x := nI kd) (e1) (by omega) (by omega) d_M_putAll_24 ?_
      refine lv_istore (lv' := [(6, .int (nI kd)), (0, .ref (h 0)), (1, .int (nI s)), (2, .int (nI D)), (3, .int (nI (4096 * s + nx))), (4, .int (nI py))]) hx hb d_M_putAll_25 hl (by decide) rfl (fun ls hl => ?_)
      refine lv_aload_n hx hb d_M_putAll_27 rfl (lv_at hl 1 rfl) ?_
      refine va_get (D := gD G) (ci := 5) (v := .ref (h 4)) (C := "WordShapesModel") (T := TM) (N := 24) hx hb hg iw_M hown hK hP 0 rfl rfl 8 (by decide) (hg _ tk_691) (fun _ h9 => h9) rfl d_M_putAll_28 ?_
      refine lv_iload_n hx hb d_M_putAll_31 rfl (lv_at hl 4 rfl) ?_
      refine lv_iconst (v := nI 1) hx hb d_M_putAll_32 (by decide) ?_
      refine lv_iadd hx hb d_M_putAll_33 ?_
      refine y_eqi (nI_add _ _) ?_
      refine yn_iald hx hb hK hP 4 0 rfl rfl (j := 4096 * s + nx + 1) (x := nI v) (e2) (by omega) (by omega) d_M_putAll_34 ?_
      refine lv_istore (lv' := [(7, .int (nI v)), (6, .int (nI kd)), (0, .ref (h 0)), (1, .int (nI s)), (2, .int (nI D)), (3, .int (nI (4096 * s + nx))), (4, .int (nI py))]) hx hb d_M_putAll_35 hl (by decide) rfl (fun ls hl => ?_)
      refine lv_iinc (v := nI (4096 * s + (nx + 2))) (lv' := [(3, .int (nI (4096 * s + (nx + 2)))), (7, .int (nI v)), (6, .int (nI kd)), (0, .ref (h 0)), (1, .int (nI s)), (2, .int (nI D)), (4, .int (nI py))]) hx hb d_M_putAll_37 hl (k := 5) rfl (y_inc2 _ _ (by omega)) (by decide) rfl (fun ls hl => ?_)
      refine lv_iload_n hx hb d_M_putAll_40 rfl (lv_at hl 5 rfl) ?_
      refine yn_if_eq (a := D) (tgt := 57) hx hb d_M_putAll_41 (by decide) (by omega) (fun c41 => ?_) (fun c41 => ?_)
      · skip
        have hK0 : K = 0 := by rcases hKs with y | y; exact y.1; exact absurd c41 (by have := y.1; omega)
        refine lv_aload_n hx hb d_M_putAll_57 rfl (lv_at hl 3 rfl) ?_
        refine lv_iload hx hb d_M_putAll_58 (lv_at hl 2 rfl) ?_
        refine y_callW (y_runV (As := [.int (nI kd)]) (rest := []) hx hb hml hown (c_M_putWord l G h dg mp ml th n t pl pn xy pt sz rs ou sl p fk fp va oa oc1 ok1 os1 kd (by omega) (by omega) (by omega)) (gV (n := 1) hg tk_903 tk_905 (gt_s 55 (by decide +kernel) (by decide +kernel)) tk_7 tk_906 (by decide +kernel) ⟨Nat.le_of_ble_eq_true rfl, Nat.le_of_ble_eq_true rfl⟩) (va_recv hK hP (ci := 5) (q0 := 0) rfl rfl) (y_preW hE hK hP hD hS hA) rfl rfl hl.1 rfl (lv_room (Nat.le_of_ble_eq_true rfl)) d_M_putAll_60 ⟨Nat.le_of_ble_eq_true rfl, Nat.le_of_ble_eq_true rfl⟩) hD hS hA (fun _ _ _ _ _ _ hp => False.elim hp) (fun v9 w9 H locs hp hlw hP hD hS => ?_)
        obtain ⟨rfl, rfl⟩ := hp
        have hP : va_P (gD G) vwC (wMW G h dg mp ml th n t pl pn xy pt sz rs ou sl p fk fp va oa oc1 ok1 (os1 ++ wdL kd)) H := hP
        have hD : va_D A (wMW G h dg mp ml th n t pl pn xy pt sz rs ou sl p fk fp va oa oc1 ok1 (os1 ++ wdL kd)) := hD
        refine W.eq (g2 := F0 mm 63 ls []) rfl ?_
        refine lv_aload_n hx hb d_M_putAll_63 rfl (lv_at hl 3 rfl) ?_
        refine lv_bipush (v := nI 32) hx hb d_M_putAll_64 (by decide) ?_
        refine y_callW (y_runV (As := [.int (nI 32)]) (rest := []) hx hb hml hown (c_M_put l G h dg mp ml th n t pl pn xy pt sz rs ou sl p fk fp va oa oc1 ok1 (os1 ++ wdL kd) 32 (by first | omega | (simp only [List.length_append, List.length_singleton, List.length_cons, List.length_nil]; omega))) (gV (n := 1) hg tk_907 tk_909 (gt_s 56 (by decide +kernel) (by decide +kernel)) tk_7 tk_910 (by decide +kernel) ⟨Nat.le_of_ble_eq_true rfl, Nat.le_of_ble_eq_true rfl⟩) (va_recv hK hP (ci := 5) (q0 := 0) rfl rfl) (y_preW hE hK hP hD hS hA) rfl rfl hl.1 rfl (lv_room (Nat.le_of_ble_eq_true rfl)) d_M_putAll_66 ⟨Nat.le_of_ble_eq_true rfl, Nat.le_of_ble_eq_true rfl⟩) hD hS hA (fun _ _ _ _ _ _ hp => False.elim hp) (fun v9 w9 H locs hp hlw hP hD hS => ?_)
        obtain ⟨rfl, rfl⟩ := hp
        have hP : va_P (gD G) vwC (wMW G h dg mp ml th n t pl pn xy pt sz rs ou sl p fk fp va oa oc1 ok1 ((os1 ++ wdL kd) ++ [32])) H := hP
        have hD : va_D A (wMW G h dg mp ml th n t pl pn xy pt sz rs ou sl p fk fp va oa oc1 ok1 ((os1 ++ wdL kd) ++ [32])) := hD
        refine W.eq (g2 := F0 mm 69 ls []) rfl ?_
        have e8 : (os1 ++ wdL kd) ++ [32] = os1 ++ hdT K kd := by unfold hdT; first | rw [if_pos (Or.inl hK0), ← List.append_assoc] | rw [if_pos (Or.inr c54), ← List.append_assoc] | rw [if_neg (by omega), List.append_nil]
        rw [e8] at hP hD
        have hP : va_P (gD G) vwC (wMW G h dg mp ml th n t pl pn xy pt sz rs ou sl p fk fp va oa oc1 ok1 (os1 ++ hdT K kd)) H := hP
        have hD : va_D A (wMW G h dg mp ml th n t pl pn xy pt sz rs ou sl p fk fp va oa oc1 ok1 (os1 ++ hdT K kd)) := hD
        exact J69   _ _ _ hP hD hS (lv_sub hl [3, 4, 5, 0, 6, 2, 1] (rfl))
      · skip
        obtain ⟨hok, hK47⟩ : ok1 (D - 1) = nI K ∧ (K = 4 ∨ K = 5 ∨ K = 6 ∨ K = 7) := by rcases hKs with y | y; exact absurd y.2 c41; exact y.2
        refine lv_aload_n hx hb d_M_putAll_44 rfl (lv_at hl 3 rfl) ?_
        refine va_get (D := gD G) (ci := 5) (v := .ref (h 12)) (C := "WordShapesModel") (T := TM) (N := 24) hx hb hg iw_M hown hK hP 0 rfl rfl 23 (by decide) (hg _ tk_706) (fun _ h9 => h9) rfl d_M_putAll_45 ?_
        refine lv_iload_n hx hb d_M_putAll_48 rfl (lv_at hl 5 rfl) ?_
        refine lv_iconst (v := nI 1) hx hb d_M_putAll_49 (by decide) ?_
        refine lv_isub hx hb d_M_putAll_50 ?_
        refine y_eqi (pk_sub (by omega)) ?_
        refine yn_iald hx hb hK hP 12 0 rfl rfl (j := D - 1) (x := nI K) (hok) (by omega) (by omega) d_M_putAll_51 ?_
        refine lv_bipush (v := nI 7) hx hb d_M_putAll_52 (by decide) ?_
        refine yn_icmp_ne (a := K) (b := 7) (tgt := 69) hx hb d_M_putAll_54 (by decide) (by omega) (by omega) (fun c54 => ?_) (fun c54 => ?_)
        · skip
          have e8 : os1 = os1 ++ hdT K kd := by unfold hdT; first | rw [if_pos (Or.inl hK0), ← List.append_assoc] | rw [if_pos (Or.inr c54), ← List.append_assoc] | rw [if_neg (by omega), List.append_nil]
          rw [e8] at hP hD
          have hP : va_P (gD G) vwC (wMW G h dg mp ml th n t pl pn xy pt sz rs ou sl p fk fp va oa oc1 ok1 (os1 ++ hdT K kd)) H := hP
          have hD : va_D A (wMW G h dg mp ml th n t pl pn xy pt sz rs ou sl p fk fp va oa oc1 ok1 (os1 ++ hdT K kd)) := hD
          exact J69   _ _ _ hP hD hS (lv_sub hl [3, 4, 5, 0, 6, 2, 1] (rfl))
        · skip
          refine lv_aload_n hx hb d_M_putAll_57 rfl (lv_at hl 3 rfl) ?_
          refine lv_iload hx hb d_M_putAll_58 (lv_at hl 2 rfl) ?_
          refine y_callW (y_runV (As := [.int (nI kd)]) (rest := []) hx hb hml hown (c_M_putWord l G h dg mp ml th n t pl pn xy pt sz rs ou sl p fk fp va oa oc1 ok1 os1 kd (by omega) (by omega) (by omega)) (gV (n := 1) hg tk_903 tk_905 (gt_s 55 (by decide +kernel) (by decide +kernel)) tk_7 tk_906 (by decide +kernel) ⟨Nat.le_of_ble_eq_true rfl, Nat.le_of_ble_eq_true rfl⟩) (va_recv hK hP (ci := 5) (q0 := 0) rfl rfl) (y_preW hE hK hP hD hS hA) rfl rfl hl.1 rfl (lv_room (Nat.le_of_ble_eq_true rfl)) d_M_putAll_60 ⟨Nat.le_of_ble_eq_true rfl, Nat.le_of_ble_eq_true rfl⟩) hD hS hA (fun _ _ _ _ _ _ hp => False.elim hp) (fun v9 w9 H locs hp hlw hP hD hS => ?_)
          obtain ⟨rfl, rfl⟩ := hp
          have hP : va_P (gD G) vwC (wMW G h dg mp ml th n t pl pn xy pt sz rs ou sl p fk fp va oa oc1 ok1 (os1 ++ wdL kd)) H := hP
          have hD : va_D A (wMW G h dg mp ml th n t pl pn xy pt sz rs ou sl p fk fp va oa oc1 ok1 (os1 ++ wdL kd)) := hD
          refine W.eq (g2 := F0 mm 63 ls []) rfl ?_
          refine lv_aload_n hx hb d_M_putAll_63 rfl (lv_at hl 3 rfl) ?_
          refine lv_bipush (v := nI 32) hx hb d_M_putAll_64 (by decide) ?_
          refine y_callW (y_runV (As := [.int (nI 32)]) (rest := []) hx hb hml hown (c_M_put l G h dg mp ml th n t pl pn xy pt sz rs ou sl p fk fp va oa oc1 ok1 (os1 ++ wdL kd) 32 (by first | omega | (simp only [List.length_append, List.length_singleton, List.length_cons, List.length_nil]; omega))) (gV (n := 1) hg tk_907 tk_909 (gt_s 56 (by decide +kernel) (by decide +kernel)) tk_7 tk_910 (by decide +kernel) ⟨Nat.le_of_ble_eq_true rfl, Nat.le_of_ble_eq_true rfl⟩) (va_recv hK hP (ci := 5) (q0 := 0) rfl rfl) (y_preW hE hK hP hD hS hA) rfl rfl hl.1 rfl (lv_room (Nat.le_of_ble_eq_true rfl)) d_M_putAll_66 ⟨Nat.le_of_ble_eq_true rfl, Nat.le_of_ble_eq_true rfl⟩) hD hS hA (fun _ _ _ _ _ _ hp => False.elim hp) (fun v9 w9 H locs hp hlw hP hD hS => ?_)
          obtain ⟨rfl, rfl⟩ := hp
          have hP : va_P (gD G) vwC (wMW G h dg mp ml th n t pl pn xy pt sz rs ou sl p fk fp va oa oc1 ok1 ((os1 ++ wdL kd) ++ [32])) H := hP
          have hD : va_D A (wMW G h dg mp ml th n t pl pn xy pt sz rs ou sl p fk fp va oa oc1 ok1 ((os1 ++ wdL kd) ++ [32])) := hD
          refine W.eq (g2 := F0 mm 69 ls []) rfl ?_
          have e8 : (os1 ++ wdL kd) ++ [32] = os1 ++ hdT K kd := by unfold hdT; first | rw [if_pos (Or.inl hK0), ← List.append_assoc] | rw [if_pos (Or.inr c54), ← List.append_assoc] | rw [if_neg (by omega), List.append_nil]
          rw [e8] at hP hD
          have hP : va_P (gD G) vwC (wMW G h dg mp ml th n t pl pn xy pt sz rs ou sl p fk fp va oa oc1 ok1 (os1 ++ hdT K kd)) H := hP
          have hD : va_D A (wMW G h dg mp ml th n t pl pn xy pt sz rs ou sl p fk fp va oa oc1 ok1 (os1 ++ hdT K kd)) := hD
          exact J69   _ _ _ hP hD hS (lv_sub hl [3, 4, 5, 0, 6, 2, 1] (rfl))
  rw [hos] at hP hD
  have hP : va_P (gD G) vwC (wMW G h dg mp ml th n t pl pn xy pt sz rs ou sl p fk fp va oa oc ok ([])) H := hP
  have hD : va_D A (wMW G h dg mp ml th n t pl pn xy pt sz rs ou sl p fk fp va oa oc ok ([])) := hD
  refine lv_iconst (v := nI 0) hx hb d_M_putAll_0 (by decide) ?_
  refine lv_istore_n (lv' := [(2, .int (nI 0)), (0, .ref (h 0)), (1, .int (nI s))]) hx hb d_M_putAll_1 rfl hl (by decide) rfl (fun ls hl => ?_)
  refine lv_sipush (v := nI 4096) hx hb d_M_putAll_2 (by decide) ?_
  refine lv_iload_n hx hb d_M_putAll_5 rfl (lv_at hl 2 rfl) ?_
  refine lv_imul hx hb d_M_putAll_6 ?_
  refine y_eqi (pk_mul _ _) ?_
  refine lv_istore_n (lv' := [(3, .int (nI (4096 * s))), (2, .int (nI 0)), (0, .ref (h 0)), (1, .int (nI s))]) hx hb d_M_putAll_7 rfl hl (by decide) rfl (fun ls hl => ?_)
  refine lv_iconst (v := nI 0) hx hb d_M_putAll_8 (by decide) ?_
  refine lv_istore (lv' := [(4, .int (nI 0)), (3, .int (nI (4096 * s))), (2, .int (nI 0)), (0, .ref (h 0)), (1, .int (nI s))]) hx hb d_M_putAll_9 hl (by decide) rfl (fun ls hl => ?_)
  refine lv_iconst (v := nI 1) hx hb d_M_putAll_11 (by decide) ?_
  refine lv_istore (lv' := [(5, .int (nI 1)), (4, .int (nI 0)), (3, .int (nI (4096 * s))), (2, .int (nI 0)), (0, .ref (h 0)), (1, .int (nI s))]) hx hb d_M_putAll_12 hl (by decide) rfl (fun ls hl => ?_)
  refine lv_iload hx hb d_M_putAll_14 (lv_at hl 0 rfl) ?_
  refine yn_if_eq (a := 1) (tgt := 306) hx hb d_M_putAll_16 (by decide) (by omega) (fun c16 => ?_) (fun c16 => ?_)
  · skip
    exact absurd c16 (by decide)
  · skip
    exact J19 _ M0 0 0 0 ([]) oc ok (Nat.lt_succ_self _) (hP0) (by omega) (by omega) (by simp) _ _ _ hP hD hS (lv_sub hl [4, 5, 3, 2, 1] (rfl))
