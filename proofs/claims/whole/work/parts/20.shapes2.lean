theorem ts4 (x : Int32) : x = nI 0 ∨ x = nI 1 ∨ x = nI 2 ∨ x = nI 3 ∨ (x.toInt < 0 ∨ 3 < x.toInt) := by
  rcases pk_ix x (n := 4) (by decide) with q | q | ⟨j, hj, rfl⟩
  · rw [Int32.lt_iff_toInt_lt, Int32.toInt_zero] at q
    omega
  · rw [Int32.le_iff_toInt_le, nI_toInt (by decide)] at q
    omega
  · rcases (show j = 0 ∨ j = 1 ∨ j = 2 ∨ j = 3 by omega) with rfl | rfl | rfl | rfl <;> simp

set_option maxHeartbeats 4000000 in
set_option maxRecDepth 100000 in
theorem c_W_count {l : Launch} (hlt : l.stackTraces = false) (G : gl) (h : Nat → Nat) (np : Nat) (no : Nat) (dg : Nat) (tl : Nat) (sk : Nat → Nat) (sc : Nat → Nat) (sf : Nat → Nat → Int32) (so : Nat → Nat → Int32) (n : Nat) (p : Nat) (fk : Nat) (fp : Nat) (t : Nat → Nat) (k : Nat) (c : Nat) (f : Nat → Int32) (o : Nat → Int32) (bt : Nat) (bk : Nat → Int32) (bn : Nat → Int32) (ln : Nat) (ks : Bool) (la : Nat) (nx : Nat) (py : Nat) (fi : Bool) (rb : Nat → Nat) (de : Nat → Int32) (wt : Nat) (wk : Nat → Int32) (wn : Nat → Int32) (s : Int32) (x : Int32)  : YC l G y_W_count k_W_count 4 (Option.some FieldType.int) 7 111 [.ref (h 0), .int s, .int x] (wW G h np no dg tl sk sc sf so n p fk fp t k c f o bt bk bn ln ks la nx py fi rb de wt wk wn) (fun v w => ∃ j, j < 4 ∧ s = nI j ∧ ((x = nI 0 ∧ v = some (.int (nI (sk j)))) ∨ (x = nI 1 ∧ v = some (.int (nI (sc j)))) ∨ (x = nI 2 ∧ v = some (.int (nI tl))) ∨ (x = nI 3 ∧ v = some (.int (nI ln)))) ∧ w = wW G h np no dg tl sk sc sf so n p fk fp t k c f o bt bk bn ln ks la nx py fi rb de wt wk wn) (fun E w => ((s < 0 ∨ nI 4 ≤ s) ∨ (x.toInt < 0 ∨ 3 < x.toInt)) ∧ E = "java/lang/IndexOutOfBoundsException" ∧ w = wW G h np no dg tl sk sc sf so n p fk fp t k c f o bt bk bn ln ks la nx py fi rb de wt wk wn) := by
  refine yc_of (by decide) ?_
  intro pg ev sx mm bl mt cd A C0 hP hD
  obtain ⟨hx, hb, hrt, hml, hown, hg, hlocks, hxt, hE, hK, hA, hmn⟩ := C0
  have hS : va_S A sx.heap sx.heap [] := va_S.rf
  have hl := lv_entry ([.ref (h 0), .int s, .int x]) (n := 4) (Nat.le_of_ble_eq_true rfl)
  rw [lg_entry_eq]
  generalize (lg_sl ([.ref (h 0), .int s, .int x]) ++ List.replicate (4 - (lg_sl ([.ref (h 0), .int s, .int x])).length) Slot.unset).toArray = ls at hl ⊢
  have hl : lv_has ls 4 [(0, .ref (h 0)), (1, .int s), (2, .int x)] := hl
  obtain ⟨H, hH⟩ : ∃ H, H = sx.heap := ⟨_, rfl⟩
  rw [← hH] at hP
  have hS : va_S A sx.heap H [] := by rw [hH]; exact hS
  suffices h9 : W pg l ev (yR 7 111) sx mm _ bl mt cd H [] 0 0 (yMQ bl G A _ _ _ _ sx) (F0 mm 0 ls []) by rw [hH] at h9; exact h9
  obtain ⟨locs, hlo⟩ : ∃ locs : List Loc, locs = [] := ⟨_, rfl⟩
  rw [← hlo] at hS ⊢
  refine lv_aload_n hx hb d_W_count_0 rfl (lv_at hl 0 rfl) ?_
  refine lv_iload_n hx hb d_W_count_1 rfl (lv_at hl 1 rfl) ?_
  refine y_callW (y_runV (As := [.int s]) (rest := []) hx hb hml hown (c_W_shapeIn hlt G h np no dg tl sk sc sf so n p fk fp t k c f o bt bk bn ln ks la nx py fi rb de wt wk wn s ) (gV (n := 1) hg tk_295 tk_297 (gt_s 2 (by decide +kernel) (by decide +kernel)) tk_1 tk_298 (by decide +kernel) ⟨Nat.le_of_ble_eq_true rfl, Nat.le_of_ble_eq_true rfl⟩) (va_recv hK hP (ci := 4) (q0 := 0) rfl rfl) (y_preW hE hK hP hD hS hA) rfl rfl hl.1 rfl (lv_room (Nat.le_of_ble_eq_true rfl)) d_W_count_2 ⟨Nat.le_of_ble_eq_true rfl, Nat.le_of_ble_eq_true rfl⟩) hD hS hA (fun E9 w9 qx cx H locs hp hlw hP hD hS hq1 hq2 hq3 => ?_) (fun v9 w9 H locs hp hlw hP hD hS => ?_)
  · skip
    obtain ⟨hc_2, rfl, rfl⟩ := hp
    have hP : va_P (gD G) vwC (wW G h np no dg tl sk sc sf so n p fk fp t k c f o bt bk bn ln ks la nx py fi rb de wt wk wn) H := hP
    have hD : va_D A (wW G h np no dg tl sk sc sf so n p fk fp t k c f o bt bk bn ln ks la nx py fi rb de wt wk wn) := hD
    exact y_out (ws := wW G h np no dg tl sk sc sf so n p fk fp t k c f o bt bk bn ln ks la nx py fi rb de wt wk wn) hxt hlocks hq1 hq2 hq3 (⟨Or.inl hc_2, rfl, rfl⟩) rfl hK hP hD hS
  obtain ⟨j_2, hj_2, rfl, rfl, rfl⟩ := hp
  have hP : va_P (gD G) vwC (wW G h np no dg tl sk sc sf so n p fk fp t k c f o bt bk bn ln ks la nx py fi rb de wt wk wn) H := hP
  have hD : va_D A (wW G h np no dg tl sk sc sf so n p fk fp t k c f o bt bk bn ln ks la nx py fi rb de wt wk wn) := hD
  refine W.eq (g2 := F0 mm 5 ls [.ref (h (2 + 3 * j_2))]) rfl ?_
  rcases (show j_2 = 0 ∨ j_2 = 1 ∨ j_2 = 2 ∨ j_2 = 3 by omega) with rfl | rfl | rfl | rfl
  · skip
    refine lv_astore_n (lv' := [(3, .ref (h 2)), (0, .ref (h 0)), (1, .int (nI 0)), (2, .int x)]) hx hb d_W_count_5 rfl hl (by decide) rfl (fun ls hl => ?_)
    refine lv_iload_n hx hb d_W_count_6 rfl (lv_at hl 3 rfl) ?_
    rcases ts4 x with rfl | rfl | rfl | rfl | hsw
    · skip
      refine lv_tableIn (off := 29) (tgt := 36) hx hb d_W_count_7 (by decide) (by decide) rfl (by decide) ?_
      refine lv_aload_n hx hb d_W_count_36 rfl (lv_at hl 0 rfl) ?_
      refine va_getN (D := gD G) (ci := 2) (v := .int (nI (sk 0))) (C := "WordShapes$Shape") (T := TS) (N := 4) hx hb hg iw_S hown hK hP 2 rfl rfl 2 (by decide) (va_Nw.use rfl (nw_46 hE.1)) (fun _ h9 => h9) rfl d_W_count_37 ?_
      exact yr_i (ws := wW G h np no dg tl sk sc sf so n p fk fp t k c f o bt bk bn ln ks la nx py fi rb de wt wk wn) hx hb hrt hlocks (⟨_, by decide, rfl, Or.inl ⟨rfl, rfl⟩, rfl⟩) rfl hK hP hD hS d_W_count_40
    · skip
      refine lv_tableIn (off := 34) (tgt := 41) hx hb d_W_count_7 (by decide) (by decide) rfl (by decide) ?_
      refine lv_aload_n hx hb d_W_count_41 rfl (lv_at hl 0 rfl) ?_
      refine va_getN (D := gD G) (ci := 2) (v := .int (nI (sc 0))) (C := "WordShapes$Shape") (T := TS) (N := 4) hx hb hg iw_S hown hK hP 2 rfl rfl 3 (by decide) (va_Nw.use rfl (nw_49 hE.1)) (fun _ h9 => h9) rfl d_W_count_42 ?_
      exact yr_i (ws := wW G h np no dg tl sk sc sf so n p fk fp t k c f o bt bk bn ln ks la nx py fi rb de wt wk wn) hx hb hrt hlocks (⟨_, by decide, rfl, Or.inr (Or.inl ⟨rfl, rfl⟩), rfl⟩) rfl hK hP hD hS d_W_count_45
    · skip
      refine lv_tableIn (off := 39) (tgt := 46) hx hb d_W_count_7 (by decide) (by decide) rfl (by decide) ?_
      refine lv_aload_n hx hb d_W_count_46 rfl (lv_at hl 1 rfl) ?_
      refine va_get (D := gD G) (ci := 4) (v := .int (nI tl)) (C := "WordShapes") (T := TW) (N := 5) hx hb hg iw_W hown hK hP 0 rfl rfl 4 (by decide) (hg _ tk_159) (fun _ h9 => h9) rfl d_W_count_47 ?_
      exact yr_i (ws := wW G h np no dg tl sk sc sf so n p fk fp t k c f o bt bk bn ln ks la nx py fi rb de wt wk wn) hx hb hrt hlocks (⟨_, by decide, rfl, Or.inr (Or.inr (Or.inl ⟨rfl, rfl⟩)), rfl⟩) rfl hK hP hD hS d_W_count_50
    · skip
      refine lv_tableIn (off := 44) (tgt := 51) hx hb d_W_count_7 (by decide) (by decide) rfl (by decide) ?_
      refine lv_aload_n hx hb d_W_count_51 rfl (lv_at hl 1 rfl) ?_
      refine va_get (D := gD G) (ci := 4) (v := .ref (h 22)) (C := "WordShapes") (T := TW) (N := 5) hx hb hg iw_W hown hK hP 0 rfl rfl 3 (by decide) (hg _ tk_158) (fun _ h9 => h9) rfl d_W_count_52 ?_
      refine va_getN (D := gD G) (ci := 3) (v := .int (nI ln)) (C := "WordShapes$Writer") (T := TT) (N := 10) hx hb hg iw_T hown hK hP 22 rfl rfl 4 (by decide) (va_Nw.use rfl (nw_128 hE.1)) (fun _ h9 => h9) rfl d_W_count_55 ?_
      exact yr_i (ws := wW G h np no dg tl sk sc sf so n p fk fp t k c f o bt bk bn ln ks la nx py fi rb de wt wk wn) hx hb hrt hlocks (⟨_, by decide, rfl, Or.inr (Or.inr (Or.inr ⟨rfl, rfl⟩)), rfl⟩) rfl hK hP hD hS d_W_count_58
    · skip
      refine lv_tableOut (tgt := 59) hx hb d_W_count_7 hsw (by decide) ?_
      exact yt_S (ws := wW G h np no dg tl sk sc sf so n p fk fp t k c f o bt bk bn ln ks la nx py fi rb de wt wk wn) hx hb hlt hown xo_W_100_104 (nw_301 hE.1) (sr_673 hE.2.1) hg hE hK hP hD hS hA hml hl.1 hxt hlocks d_W_count_59 d_W_count_62 d_W_count_63 d_W_count_65 d_W_count_68 (by decide) (by decide) (⟨Or.inr hsw, rfl, rfl⟩) rfl
  · skip
    refine lv_astore_n (lv' := [(3, .ref (h 5)), (0, .ref (h 0)), (1, .int (nI 1)), (2, .int x)]) hx hb d_W_count_5 rfl hl (by decide) rfl (fun ls hl => ?_)
    refine lv_iload_n hx hb d_W_count_6 rfl (lv_at hl 3 rfl) ?_
    rcases ts4 x with rfl | rfl | rfl | rfl | hsw
    · skip
      refine lv_tableIn (off := 29) (tgt := 36) hx hb d_W_count_7 (by decide) (by decide) rfl (by decide) ?_
      refine lv_aload_n hx hb d_W_count_36 rfl (lv_at hl 0 rfl) ?_
      refine va_getN (D := gD G) (ci := 2) (v := .int (nI (sk 1))) (C := "WordShapes$Shape") (T := TS) (N := 4) hx hb hg iw_S hown hK hP 5 rfl rfl 2 (by decide) (va_Nw.use rfl (nw_46 hE.1)) (fun _ h9 => h9) rfl d_W_count_37 ?_
      exact yr_i (ws := wW G h np no dg tl sk sc sf so n p fk fp t k c f o bt bk bn ln ks la nx py fi rb de wt wk wn) hx hb hrt hlocks (⟨_, by decide, rfl, Or.inl ⟨rfl, rfl⟩, rfl⟩) rfl hK hP hD hS d_W_count_40
    · skip
      refine lv_tableIn (off := 34) (tgt := 41) hx hb d_W_count_7 (by decide) (by decide) rfl (by decide) ?_
      refine lv_aload_n hx hb d_W_count_41 rfl (lv_at hl 0 rfl) ?_
      refine va_getN (D := gD G) (ci := 2) (v := .int (nI (sc 1))) (C := "WordShapes$Shape") (T := TS) (N := 4) hx hb hg iw_S hown hK hP 5 rfl rfl 3 (by decide) (va_Nw.use rfl (nw_49 hE.1)) (fun _ h9 => h9) rfl d_W_count_42 ?_
      exact yr_i (ws := wW G h np no dg tl sk sc sf so n p fk fp t k c f o bt bk bn ln ks la nx py fi rb de wt wk wn) hx hb hrt hlocks (⟨_, by decide, rfl, Or.inr (Or.inl ⟨rfl, rfl⟩), rfl⟩) rfl hK hP hD hS d_W_count_45
    · skip
      refine lv_tableIn (off := 39) (tgt := 46) hx hb d_W_count_7 (by decide) (by decide) rfl (by decide) ?_
      refine lv_aload_n hx hb d_W_count_46 rfl (lv_at hl 1 rfl) ?_
      refine va_get (D := gD G) (ci := 4) (v := .int (nI tl)) (C := "WordShapes") (T := TW) (N := 5) hx hb hg iw_W hown hK hP 0 rfl rfl 4 (by decide) (hg _ tk_159) (fun _ h9 => h9) rfl d_W_count_47 ?_
      exact yr_i (ws := wW G h np no dg tl sk sc sf so n p fk fp t k c f o bt bk bn ln ks la nx py fi rb de wt wk wn) hx hb hrt hlocks (⟨_, by decide, rfl, Or.inr (Or.inr (Or.inl ⟨rfl, rfl⟩)), rfl⟩) rfl hK hP hD hS d_W_count_50
    · skip
      refine lv_tableIn (off := 44) (tgt := 51) hx hb d_W_count_7 (by decide) (by decide) rfl (by decide) ?_
      refine lv_aload_n hx hb d_W_count_51 rfl (lv_at hl 1 rfl) ?_
      refine va_get (D := gD G) (ci := 4) (v := .ref (h 22)) (C := "WordShapes") (T := TW) (N := 5) hx hb hg iw_W hown hK hP 0 rfl rfl 3 (by decide) (hg _ tk_158) (fun _ h9 => h9) rfl d_W_count_52 ?_
      refine va_getN (D := gD G) (ci := 3) (v := .int (nI ln)) (C := "WordShapes$Writer") (T := TT) (N := 10) hx hb hg iw_T hown hK hP 22 rfl rfl 4 (by decide) (va_Nw.use rfl (nw_128 hE.1)) (fun _ h9 => h9) rfl d_W_count_55 ?_
      exact yr_i (ws := wW G h np no dg tl sk sc sf so n p fk fp t k c f o bt bk bn ln ks la nx py fi rb de wt wk wn) hx hb hrt hlocks (⟨_, by decide, rfl, Or.inr (Or.inr (Or.inr ⟨rfl, rfl⟩)), rfl⟩) rfl hK hP hD hS d_W_count_58
    · skip
      refine lv_tableOut (tgt := 59) hx hb d_W_count_7 hsw (by decide) ?_
      exact yt_S (ws := wW G h np no dg tl sk sc sf so n p fk fp t k c f o bt bk bn ln ks la nx py fi rb de wt wk wn) hx hb hlt hown xo_W_100_104 (nw_301 hE.1) (sr_673 hE.2.1) hg hE hK hP hD hS hA hml hl.1 hxt hlocks d_W_count_59 d_W_count_62 d_W_count_63 d_W_count_65 d_W_count_68 (by decide) (by decide) (⟨Or.inr hsw, rfl, rfl⟩) rfl
  · skip
    refine lv_astore_n (lv' := [(3, .ref (h 8)), (0, .ref (h 0)), (1, .int (nI 2)), (2, .int x)]) hx hb d_W_count_5 rfl hl (by decide) rfl (fun ls hl => ?_)
    refine lv_iload_n hx hb d_W_count_6 rfl (lv_at hl 3 rfl) ?_
    rcases ts4 x with rfl | rfl | rfl | rfl | hsw
    · skip
      refine lv_tableIn (off := 29) (tgt := 36) hx hb d_W_count_7 (by decide) (by decide) rfl (by decide) ?_
      refine lv_aload_n hx hb d_W_count_36 rfl (lv_at hl 0 rfl) ?_
      refine va_getN (D := gD G) (ci := 2) (v := .int (nI (sk 2))) (C := "WordShapes$Shape") (T := TS) (N := 4) hx hb hg iw_S hown hK hP 8 rfl rfl 2 (by decide) (va_Nw.use rfl (nw_46 hE.1)) (fun _ h9 => h9) rfl d_W_count_37 ?_
      exact yr_i (ws := wW G h np no dg tl sk sc sf so n p fk fp t k c f o bt bk bn ln ks la nx py fi rb de wt wk wn) hx hb hrt hlocks (⟨_, by decide, rfl, Or.inl ⟨rfl, rfl⟩, rfl⟩) rfl hK hP hD hS d_W_count_40
    · skip
      refine lv_tableIn (off := 34) (tgt := 41) hx hb d_W_count_7 (by decide) (by decide) rfl (by decide) ?_
      refine lv_aload_n hx hb d_W_count_41 rfl (lv_at hl 0 rfl) ?_
      refine va_getN (D := gD G) (ci := 2) (v := .int (nI (sc 2))) (C := "WordShapes$Shape") (T := TS) (N := 4) hx hb hg iw_S hown hK hP 8 rfl rfl 3 (by decide) (va_Nw.use rfl (nw_49 hE.1)) (fun _ h9 => h9) rfl d_W_count_42 ?_
      exact yr_i (ws := wW G h np no dg tl sk sc sf so n p fk fp t k c f o bt bk bn ln ks la nx py fi rb de wt wk wn) hx hb hrt hlocks (⟨_, by decide, rfl, Or.inr (Or.inl ⟨rfl, rfl⟩), rfl⟩) rfl hK hP hD hS d_W_count_45
    · skip
      refine lv_tableIn (off := 39) (tgt := 46) hx hb d_W_count_7 (by decide) (by decide) rfl (by decide) ?_
      refine lv_aload_n hx hb d_W_count_46 rfl (lv_at hl 1 rfl) ?_
      refine va_get (D := gD G) (ci := 4) (v := .int (nI tl)) (C := "WordShapes") (T := TW) (N := 5) hx hb hg iw_W hown hK hP 0 rfl rfl 4 (by decide) (hg _ tk_159) (fun _ h9 => h9) rfl d_W_count_47 ?_
      exact yr_i (ws := wW G h np no dg tl sk sc sf so n p fk fp t k c f o bt bk bn ln ks la nx py fi rb de wt wk wn) hx hb hrt hlocks (⟨_, by decide, rfl, Or.inr (Or.inr (Or.inl ⟨rfl, rfl⟩)), rfl⟩) rfl hK hP hD hS d_W_count_50
    · skip
      refine lv_tableIn (off := 44) (tgt := 51) hx hb d_W_count_7 (by decide) (by decide) rfl (by decide) ?_
      refine lv_aload_n hx hb d_W_count_51 rfl (lv_at hl 1 rfl) ?_
      refine va_get (D := gD G) (ci := 4) (v := .ref (h 22)) (C := "WordShapes") (T := TW) (N := 5) hx hb hg iw_W hown hK hP 0 rfl rfl 3 (by decide) (hg _ tk_158) (fun _ h9 => h9) rfl d_W_count_52 ?_
      refine va_getN (D := gD G) (ci := 3) (v := .int (nI ln)) (C := "WordShapes$Writer") (T := TT) (N := 10) hx hb hg iw_T hown hK hP 22 rfl rfl 4 (by decide) (va_Nw.use rfl (nw_128 hE.1)) (fun _ h9 => h9) rfl d_W_count_55 ?_
      exact yr_i (ws := wW G h np no dg tl sk sc sf so n p fk fp t k c f o bt bk bn ln ks la nx py fi rb de wt wk wn) hx hb hrt hlocks (⟨_, by decide, rfl, Or.inr (Or.inr (Or.inr ⟨rfl, rfl⟩)), rfl⟩) rfl hK hP hD hS d_W_count_58
    · skip
      refine lv_tableOut (tgt := 59) hx hb d_W_count_7 hsw (by decide) ?_
      exact yt_S (ws := wW G h np no dg tl sk sc sf so n p fk fp t k c f o bt bk bn ln ks la nx py fi rb de wt wk wn) hx hb hlt hown xo_W_100_104 (nw_301 hE.1) (sr_673 hE.2.1) hg hE hK hP hD hS hA hml hl.1 hxt hlocks d_W_count_59 d_W_count_62 d_W_count_63 d_W_count_65 d_W_count_68 (by decide) (by decide) (⟨Or.inr hsw, rfl, rfl⟩) rfl
  · skip
    refine lv_astore_n (lv' := [(3, .ref (h 11)), (0, .ref (h 0)), (1, .int (nI 3)), (2, .int x)]) hx hb d_W_count_5 rfl hl (by decide) rfl (fun ls hl => ?_)
    refine lv_iload_n hx hb d_W_count_6 rfl (lv_at hl 3 rfl) ?_
    rcases ts4 x with rfl | rfl | rfl | rfl | hsw
    · skip
      refine lv_tableIn (off := 29) (tgt := 36) hx hb d_W_count_7 (by decide) (by decide) rfl (by decide) ?_
      refine lv_aload_n hx hb d_W_count_36 rfl (lv_at hl 0 rfl) ?_
      refine va_getN (D := gD G) (ci := 2) (v := .int (nI (sk 3))) (C := "WordShapes$Shape") (T := TS) (N := 4) hx hb hg iw_S hown hK hP 11 rfl rfl 2 (by decide) (va_Nw.use rfl (nw_46 hE.1)) (fun _ h9 => h9) rfl d_W_count_37 ?_
      exact yr_i (ws := wW G h np no dg tl sk sc sf so n p fk fp t k c f o bt bk bn ln ks la nx py fi rb de wt wk wn) hx hb hrt hlocks (⟨_, by decide, rfl, Or.inl ⟨rfl, rfl⟩, rfl⟩) rfl hK hP hD hS d_W_count_40
    · skip
      refine lv_tableIn (off := 34) (tgt := 41) hx hb d_W_count_7 (by decide) (by decide) rfl (by decide) ?_
      refine lv_aload_n hx hb d_W_count_41 rfl (lv_at hl 0 rfl) ?_
      refine va_getN (D := gD G) (ci := 2) (v := .int (nI (sc 3))) (C := "WordShapes$Shape") (T := TS) (N := 4) hx hb hg iw_S hown hK hP 11 rfl rfl 3 (by decide) (va_Nw.use rfl (nw_49 hE.1)) (fun _ h9 => h9) rfl d_W_count_42 ?_
      exact yr_i (ws := wW G h np no dg tl sk sc sf so n p fk fp t k c f o bt bk bn ln ks la nx py fi rb de wt wk wn) hx hb hrt hlocks (⟨_, by decide, rfl, Or.inr (Or.inl ⟨rfl, rfl⟩), rfl⟩) rfl hK hP hD hS d_W_count_45
    · skip
      refine lv_tableIn (off := 39) (tgt := 46) hx hb d_W_count_7 (by decide) (by decide) rfl (by decide) ?_
      refine lv_aload_n hx hb d_W_count_46 rfl (lv_at hl 1 rfl) ?_
      refine va_get (D := gD G) (ci := 4) (v := .int (nI tl)) (C := "WordShapes") (T := TW) (N := 5) hx hb hg iw_W hown hK hP 0 rfl rfl 4 (by decide) (hg _ tk_159) (fun _ h9 => h9) rfl d_W_count_47 ?_
      exact yr_i (ws := wW G h np no dg tl sk sc sf so n p fk fp t k c f o bt bk bn ln ks la nx py fi rb de wt wk wn) hx hb hrt hlocks (⟨_, by decide, rfl, Or.inr (Or.inr (Or.inl ⟨rfl, rfl⟩)), rfl⟩) rfl hK hP hD hS d_W_count_50
    · skip
      refine lv_tableIn (off := 44) (tgt := 51) hx hb d_W_count_7 (by decide) (by decide) rfl (by decide) ?_
      refine lv_aload_n hx hb d_W_count_51 rfl (lv_at hl 1 rfl) ?_
      refine va_get (D := gD G) (ci := 4) (v := .ref (h 22)) (C := "WordShapes") (T := TW) (N := 5) hx hb hg iw_W hown hK hP 0 rfl rfl 3 (by decide) (hg _ tk_158) (fun _ h9 => h9) rfl d_W_count_52 ?_
      refine va_getN (D := gD G) (ci := 3) (v := .int (nI ln)) (C := "WordShapes$Writer") (T := TT) (N := 10) hx hb hg iw_T hown hK hP 22 rfl rfl 4 (by decide) (va_Nw.use rfl (nw_128 hE.1)) (fun _ h9 => h9) rfl d_W_count_55 ?_
      exact yr_i (ws := wW G h np no dg tl sk sc sf so n p fk fp t k c f o bt bk bn ln ks la nx py fi rb de wt wk wn) hx hb hrt hlocks (⟨_, by decide, rfl, Or.inr (Or.inr (Or.inr ⟨rfl, rfl⟩)), rfl⟩) rfl hK hP hD hS d_W_count_58
    · skip
      refine lv_tableOut (tgt := 59) hx hb d_W_count_7 hsw (by decide) ?_
      exact yt_S (ws := wW G h np no dg tl sk sc sf so n p fk fp t k c f o bt bk bn ln ks la nx py fi rb de wt wk wn) hx hb hlt hown xo_W_100_104 (nw_301 hE.1) (sr_673 hE.2.1) hg hE hK hP hD hS hA hml hl.1 hxt hlocks d_W_count_59 d_W_count_62 d_W_count_63 d_W_count_65 d_W_count_68 (by decide) (by decide) (⟨Or.inr hsw, rfl, rfl⟩) rfl
set_option maxHeartbeats 4000000 in
set_option maxRecDepth 100000 in
theorem c_W_plan {l : Launch} (hlt : l.stackTraces = false) (G : gl) (h : Nat → Nat) (np : Nat) (no : Nat) (dg : Nat) (tl : Nat) (sk : Nat → Nat) (sc : Nat → Nat) (sf : Nat → Nat → Int32) (so : Nat → Nat → Int32) (n : Nat) (p : Nat) (fk : Nat) (fp : Nat) (t : Nat → Nat) (k : Nat) (c : Nat) (f : Nat → Int32) (o : Nat → Int32) (bt : Nat) (bk : Nat → Int32) (bn : Nat → Int32) (ln : Nat) (ks : Bool) (la : Nat) (nx : Nat) (py : Nat) (fi : Bool) (rb : Nat → Nat) (de : Nat → Int32) (wt : Nat) (wk : Nat → Int32) (wn : Nat → Int32) (s : Int32) (i : Int32) (hsk : ∀ j, sk j ≤ np) (hsc : ∀ j, 2 * sc j ≤ no) (hnp : np ≤ 4096) (hno : no ≤ 8192) : YC l G y_W_plan k_W_plan 4 (Option.some FieldType.int) 7 111 [.ref (h 0), .int s, .int i] (wW G h np no dg tl sk sc sf so n p fk fp t k c f o bt bk bn ln ks la nx py fi rb de wt wk wn) (fun v w => ∃ j q, j < 4 ∧ s = nI j ∧ q < sk j ∧ i = nI q ∧ v = some (.int (sf j q)) ∧ w = wW G h np no dg tl sk sc sf so n p fk fp t k c f o bt bk bn ln ks la nx py fi rb de wt wk wn) (fun E w => ((s < 0 ∨ nI 4 ≤ s) ∨ ∃ j, j < 4 ∧ s = nI j ∧ (i < 0 ∨ nI (sk j) ≤ i)) ∧ E = "java/lang/IndexOutOfBoundsException" ∧ w = wW G h np no dg tl sk sc sf so n p fk fp t k c f o bt bk bn ln ks la nx py fi rb de wt wk wn) := by
  refine yc_of (by decide) ?_
  intro pg ev sx mm bl mt cd A C0 hP hD
  obtain ⟨hx, hb, hrt, hml, hown, hg, hlocks, hxt, hE, hK, hA, hmn⟩ := C0
  have hS : va_S A sx.heap sx.heap [] := va_S.rf
  have hl := lv_entry ([.ref (h 0), .int s, .int i]) (n := 4) (Nat.le_of_ble_eq_true rfl)
  rw [lg_entry_eq]
  generalize (lg_sl ([.ref (h 0), .int s, .int i]) ++ List.replicate (4 - (lg_sl ([.ref (h 0), .int s, .int i])).length) Slot.unset).toArray = ls at hl ⊢
  have hl : lv_has ls 4 [(0, .ref (h 0)), (1, .int s), (2, .int i)] := hl
  obtain ⟨H, hH⟩ : ∃ H, H = sx.heap := ⟨_, rfl⟩
  rw [← hH] at hP
  have hS : va_S A sx.heap H [] := by rw [hH]; exact hS
  suffices h9 : W pg l ev (yR 7 111) sx mm _ bl mt cd H [] 0 0 (yMQ bl G A _ _ _ _ sx) (F0 mm 0 ls []) by rw [hH] at h9; exact h9
  obtain ⟨locs, hlo⟩ : ∃ locs : List Loc, locs = [] := ⟨_, rfl⟩
  rw [← hlo] at hS ⊢
  refine lv_aload_n hx hb d_W_plan_0 rfl (lv_at hl 0 rfl) ?_
  refine lv_iload_n hx hb d_W_plan_1 rfl (lv_at hl 1 rfl) ?_
  refine y_callW (y_runV (As := [.int s]) (rest := []) hx hb hml hown (c_W_shapeIn hlt G h np no dg tl sk sc sf so n p fk fp t k c f o bt bk bn ln ks la nx py fi rb de wt wk wn s ) (gV (n := 1) hg tk_295 tk_297 (gt_s 2 (by decide +kernel) (by decide +kernel)) tk_1 tk_298 (by decide +kernel) ⟨Nat.le_of_ble_eq_true rfl, Nat.le_of_ble_eq_true rfl⟩) (va_recv hK hP (ci := 4) (q0 := 0) rfl rfl) (y_preW hE hK hP hD hS hA) rfl rfl hl.1 rfl (lv_room (Nat.le_of_ble_eq_true rfl)) d_W_plan_2 ⟨Nat.le_of_ble_eq_true rfl, Nat.le_of_ble_eq_true rfl⟩) hD hS hA (fun E9 w9 qx cx H locs hp hlw hP hD hS hq1 hq2 hq3 => ?_) (fun v9 w9 H locs hp hlw hP hD hS => ?_)
  · skip
    obtain ⟨hc_2, rfl, rfl⟩ := hp
    have hP : va_P (gD G) vwC (wW G h np no dg tl sk sc sf so n p fk fp t k c f o bt bk bn ln ks la nx py fi rb de wt wk wn) H := hP
    have hD : va_D A (wW G h np no dg tl sk sc sf so n p fk fp t k c f o bt bk bn ln ks la nx py fi rb de wt wk wn) := hD
    exact y_out (ws := wW G h np no dg tl sk sc sf so n p fk fp t k c f o bt bk bn ln ks la nx py fi rb de wt wk wn) hxt hlocks hq1 hq2 hq3 (⟨Or.inl hc_2, rfl, rfl⟩) rfl hK hP hD hS
  obtain ⟨j_2, hj_2, rfl, rfl, rfl⟩ := hp
  have hP : va_P (gD G) vwC (wW G h np no dg tl sk sc sf so n p fk fp t k c f o bt bk bn ln ks la nx py fi rb de wt wk wn) H := hP
  have hD : va_D A (wW G h np no dg tl sk sc sf so n p fk fp t k c f o bt bk bn ln ks la nx py fi rb de wt wk wn) := hD
  refine W.eq (g2 := F0 mm 5 ls [.ref (h (2 + 3 * j_2))]) rfl ?_
  rcases (show j_2 = 0 ∨ j_2 = 1 ∨ j_2 = 2 ∨ j_2 = 3 by omega) with rfl | rfl | rfl | rfl
  · skip
    refine lv_astore_n (lv' := [(3, .ref (h 2)), (0, .ref (h 0)), (1, .int (nI 0)), (2, .int i)]) hx hb d_W_plan_5 rfl hl (by decide) rfl (fun ls hl => ?_)
    refine lv_iload_n hx hb d_W_plan_6 rfl (lv_at hl 3 rfl) ?_
    refine lv_if_lt (tgt := 18) hx hb d_W_plan_7 (by decide) (fun c7 => ?_) (fun c7 => ?_)
    · skip
      exact yt_S (ws := wW G h np no dg tl sk sc sf so n p fk fp t k c f o bt bk bn ln ks la nx py fi rb de wt wk wn) hx hb hlt hown xo_W_100_104 (nw_301 hE.1) (sr_647 hE.2.1) hg hE hK hP hD hS hA hml hl.1 hxt hlocks d_W_plan_18 d_W_plan_21 d_W_plan_22 d_W_plan_24 d_W_plan_27 (by decide) (by decide) (⟨Or.inr ⟨_, by decide, rfl, by first | exact Or.inl c7 | exact Or.inr (Int32.not_lt.mp c15)⟩, rfl, rfl⟩) rfl
    · skip
      refine lv_iload_n hx hb d_W_plan_10 rfl (lv_at hl 3 rfl) ?_
      refine lv_aload_n hx hb d_W_plan_11 rfl (lv_at hl 0 rfl) ?_
      refine va_getN (D := gD G) (ci := 2) (v := .int (nI (sk 0))) (C := "WordShapes$Shape") (T := TS) (N := 4) hx hb hg iw_S hown hK hP 2 rfl rfl 2 (by decide) (va_Nw.use rfl (nw_46 hE.1)) (fun _ h9 => h9) rfl d_W_plan_12 ?_
      refine lv_icmp_lt (tgt := 28) hx hb d_W_plan_15 (by decide) (fun c15 => ?_) (fun c15 => ?_)
      · skip
        have hsk9 := hsk 0
        have hsc9 := hsc 0
        obtain ⟨q, hq, rfl⟩ : ∃ q : Nat, q < sk 0 ∧ i = nI q := by rcases pk_ix i (n := sk 0) (by omega) with q9 | q9 | q9; exact absurd q9 c7; exact absurd c15 (Int32.not_lt.mpr q9); exact q9
        refine lv_aload_n hx hb d_W_plan_28 rfl (lv_at hl 0 rfl) ?_
        refine lv_iload_n hx hb d_W_plan_29 rfl (lv_at hl 3 rfl) ?_
        refine y_call (y_runV (As := [.int (nI q)]) (rest := []) hx hb hml hown (c_S_numberAt l G (fun i => h (i + 2)) np no (sk 0) (sc 0) (sf 0) (so 0) q (by omega) (by omega) (by omega)) (gV (n := 1) hg tk_537 tk_538 tk_539 tk_3 tk_540 (by decide +kernel) ⟨Nat.le_of_ble_eq_true rfl, Nat.le_of_ble_eq_true rfl⟩) (va_recv hK hP (ci := 2) (q0 := 2) rfl rfl) (y_pre hE hK hP hD hS hA [2, 3, 4] rfl rfl) rfl rfl hl.1 rfl (lv_room (Nat.le_of_ble_eq_true rfl)) d_W_plan_30 ⟨Nat.le_of_ble_eq_true rfl, Nat.le_of_ble_eq_true rfl⟩) hP hD hS hA [2, 3, 4] rfl (fun _ _ _ _ _ _ hp => False.elim hp) (fun v9 w9 H locs hp hlw hP hD hS => ?_)
        obtain ⟨rfl, rfl⟩ := hp
        have hP : va_P (gD G) vwC (wW G h np no dg tl sk sc sf so n p fk fp t k c f o bt bk bn ln ks la nx py fi rb de wt wk wn) H := hP
        have hD : va_D A (wW G h np no dg tl sk sc sf so n p fk fp t k c f o bt bk bn ln ks la nx py fi rb de wt wk wn) := hD
        refine W.eq (g2 := F0 mm 33 ls [.int (if q < (sk 0) then (sf 0) q else 0)]) rfl ?_
        refine y_eqi (y := sf 0 q) (if_pos hq) ?_
        exact yr_i (ws := wW G h np no dg tl sk sc sf so n p fk fp t k c f o bt bk bn ln ks la nx py fi rb de wt wk wn) hx hb hrt hlocks (⟨_, _, by decide, rfl, hq, rfl, rfl, rfl⟩) rfl hK hP hD hS d_W_plan_33
      · skip
        exact yt_S (ws := wW G h np no dg tl sk sc sf so n p fk fp t k c f o bt bk bn ln ks la nx py fi rb de wt wk wn) hx hb hlt hown xo_W_100_104 (nw_301 hE.1) (sr_647 hE.2.1) hg hE hK hP hD hS hA hml hl.1 hxt hlocks d_W_plan_18 d_W_plan_21 d_W_plan_22 d_W_plan_24 d_W_plan_27 (by decide) (by decide) (⟨Or.inr ⟨_, by decide, rfl, by first | exact Or.inl c7 | exact Or.inr (Int32.not_lt.mp c15)⟩, rfl, rfl⟩) rfl
  · skip
    refine lv_astore_n (lv' := [(3, .ref (h 5)), (0, .ref (h 0)), (1, .int (nI 1)), (2, .int i)]) hx hb d_W_plan_5 rfl hl (by decide) rfl (fun ls hl => ?_)
    refine lv_iload_n hx hb d_W_plan_6 rfl (lv_at hl 3 rfl) ?_
    refine lv_if_lt (tgt := 18) hx hb d_W_plan_7 (by decide) (fun c7 => ?_) (fun c7 => ?_)
    · skip
      exact yt_S (ws := wW G h np no dg tl sk sc sf so n p fk fp t k c f o bt bk bn ln ks la nx py fi rb de wt wk wn) hx hb hlt hown xo_W_100_104 (nw_301 hE.1) (sr_647 hE.2.1) hg hE hK hP hD hS hA hml hl.1 hxt hlocks d_W_plan_18 d_W_plan_21 d_W_plan_22 d_W_plan_24 d_W_plan_27 (by decide) (by decide) (⟨Or.inr ⟨_, by decide, rfl, by first | exact Or.inl c7 | exact Or.inr (Int32.not_lt.mp c15)⟩, rfl, rfl⟩) rfl
    · skip
      refine lv_iload_n hx hb d_W_plan_10 rfl (lv_at hl 3 rfl) ?_
      refine lv_aload_n hx hb d_W_plan_11 rfl (lv_at hl 0 rfl) ?_
      refine va_getN (D := gD G) (ci := 2) (v := .int (nI (sk 1))) (C := "WordShapes$Shape") (T := TS) (N := 4) hx hb hg iw_S hown hK hP 5 rfl rfl 2 (by decide) (va_Nw.use rfl (nw_46 hE.1)) (fun _ h9 => h9) rfl d_W_plan_12 ?_
      refine lv_icmp_lt (tgt := 28) hx hb d_W_plan_15 (by decide) (fun c15 => ?_) (fun c15 => ?_)
      · skip
        have hsk9 := hsk 1
        have hsc9 := hsc 1
        obtain ⟨q, hq, rfl⟩ : ∃ q : Nat, q < sk 1 ∧ i = nI q := by rcases pk_ix i (n := sk 1) (by omega) with q9 | q9 | q9; exact absurd q9 c7; exact absurd c15 (Int32.not_lt.mpr q9); exact q9
        refine lv_aload_n hx hb d_W_plan_28 rfl (lv_at hl 0 rfl) ?_
        refine lv_iload_n hx hb d_W_plan_29 rfl (lv_at hl 3 rfl) ?_
        refine y_call (y_runV (As := [.int (nI q)]) (rest := []) hx hb hml hown (c_S_numberAt l G (fun i => h (i + 5)) np no (sk 1) (sc 1) (sf 1) (so 1) q (by omega) (by omega) (by omega)) (gV (n := 1) hg tk_537 tk_538 tk_539 tk_3 tk_540 (by decide +kernel) ⟨Nat.le_of_ble_eq_true rfl, Nat.le_of_ble_eq_true rfl⟩) (va_recv hK hP (ci := 2) (q0 := 5) rfl rfl) (y_pre hE hK hP hD hS hA [5, 6, 7] rfl rfl) rfl rfl hl.1 rfl (lv_room (Nat.le_of_ble_eq_true rfl)) d_W_plan_30 ⟨Nat.le_of_ble_eq_true rfl, Nat.le_of_ble_eq_true rfl⟩) hP hD hS hA [5, 6, 7] rfl (fun _ _ _ _ _ _ hp => False.elim hp) (fun v9 w9 H locs hp hlw hP hD hS => ?_)
        obtain ⟨rfl, rfl⟩ := hp
        have hP : va_P (gD G) vwC (wW G h np no dg tl sk sc sf so n p fk fp t k c f o bt bk bn ln ks la nx py fi rb de wt wk wn) H := hP
        have hD : va_D A (wW G h np no dg tl sk sc sf so n p fk fp t k c f o bt bk bn ln ks la nx py fi rb de wt wk wn) := hD
        refine W.eq (g2 := F0 mm 33 ls [.int (if q < (sk 1) then (sf 1) q else 0)]) rfl ?_
        refine y_eqi (y := sf 1 q) (if_pos hq) ?_
        exact yr_i (ws := wW G h np no dg tl sk sc sf so n p fk fp t k c f o bt bk bn ln ks la nx py fi rb de wt wk wn) hx hb hrt hlocks (⟨_, _, by decide, rfl, hq, rfl, rfl, rfl⟩) rfl hK hP hD hS d_W_plan_33
      · skip
        exact yt_S (ws := wW G h np no dg tl sk sc sf so n p fk fp t k c f o bt bk bn ln ks la nx py fi rb de wt wk wn) hx hb hlt hown xo_W_100_104 (nw_301 hE.1) (sr_647 hE.2.1) hg hE hK hP hD hS hA hml hl.1 hxt hlocks d_W_plan_18 d_W_plan_21 d_W_plan_22 d_W_plan_24 d_W_plan_27 (by decide) (by decide) (⟨Or.inr ⟨_, by decide, rfl, by first | exact Or.inl c7 | exact Or.inr (Int32.not_lt.mp c15)⟩, rfl, rfl⟩) rfl
  · skip
    refine lv_astore_n (lv' := [(3, .ref (h 8)), (0, .ref (h 0)), (1, .int (nI 2)), (2, .int i)]) hx hb d_W_plan_5 rfl hl (by decide) rfl (fun ls hl => ?_)
    refine lv_iload_n hx hb d_W_plan_6 rfl (lv_at hl 3 rfl) ?_
    refine lv_if_lt (tgt := 18) hx hb d_W_plan_7 (by decide) (fun c7 => ?_) (fun c7 => ?_)
    · skip
      exact yt_S (ws := wW G h np no dg tl sk sc sf so n p fk fp t k c f o bt bk bn ln ks la nx py fi rb de wt wk wn) hx hb hlt hown xo_W_100_104 (nw_301 hE.1) (sr_647 hE.2.1) hg hE hK hP hD hS hA hml hl.1 hxt hlocks d_W_plan_18 d_W_plan_21 d_W_plan_22 d_W_plan_24 d_W_plan_27 (by decide) (by decide) (⟨Or.inr ⟨_, by decide, rfl, by first | exact Or.inl c7 | exact Or.inr (Int32.not_lt.mp c15)⟩, rfl, rfl⟩) rfl
    · skip
      refine lv_iload_n hx hb d_W_plan_10 rfl (lv_at hl 3 rfl) ?_
      refine lv_aload_n hx hb d_W_plan_11 rfl (lv_at hl 0 rfl) ?_
      refine va_getN (D := gD G) (ci := 2) (v := .int (nI (sk 2))) (C := "WordShapes$Shape") (T := TS) (N := 4) hx hb hg iw_S hown hK hP 8 rfl rfl 2 (by decide) (va_Nw.use rfl (nw_46 hE.1)) (fun _ h9 => h9) rfl d_W_plan_12 ?_
      refine lv_icmp_lt (tgt := 28) hx hb d_W_plan_15 (by decide) (fun c15 => ?_) (fun c15 => ?_)
      · skip
        have hsk9 := hsk 2
        have hsc9 := hsc 2
        obtain ⟨q, hq, rfl⟩ : ∃ q : Nat, q < sk 2 ∧ i = nI q := by rcases pk_ix i (n := sk 2) (by omega) with q9 | q9 | q9; exact absurd q9 c7; exact absurd c15 (Int32.not_lt.mpr q9); exact q9
        refine lv_aload_n hx hb d_W_plan_28 rfl (lv_at hl 0 rfl) ?_
        refine lv_iload_n hx hb d_W_plan_29 rfl (lv_at hl 3 rfl) ?_
        refine y_call (y_runV (As := [.int (nI q)]) (rest := []) hx hb hml hown (c_S_numberAt l G (fun i => h (i + 8)) np no (sk 2) (sc 2) (sf 2) (so 2) q (by omega) (by omega) (by omega)) (gV (n := 1) hg tk_537 tk_538 tk_539 tk_3 tk_540 (by decide +kernel) ⟨Nat.le_of_ble_eq_true rfl, Nat.le_of_ble_eq_true rfl⟩) (va_recv hK hP (ci := 2) (q0 := 8) rfl rfl) (y_pre hE hK hP hD hS hA [8, 9, 10] rfl rfl) rfl rfl hl.1 rfl (lv_room (Nat.le_of_ble_eq_true rfl)) d_W_plan_30 ⟨Nat.le_of_ble_eq_true rfl, Nat.le_of_ble_eq_true rfl⟩) hP hD hS hA [8, 9, 10] rfl (fun _ _ _ _ _ _ hp => False.elim hp) (fun v9 w9 H locs hp hlw hP hD hS => ?_)
        obtain ⟨rfl, rfl⟩ := hp
        have hP : va_P (gD G) vwC (wW G h np no dg tl sk sc sf so n p fk fp t k c f o bt bk bn ln ks la nx py fi rb de wt wk wn) H := hP
        have hD : va_D A (wW G h np no dg tl sk sc sf so n p fk fp t k c f o bt bk bn ln ks la nx py fi rb de wt wk wn) := hD
        refine W.eq (g2 := F0 mm 33 ls [.int (if q < (sk 2) then (sf 2) q else 0)]) rfl ?_
        refine y_eqi (y := sf 2 q) (if_pos hq) ?_
        exact yr_i (ws := wW G h np no dg tl sk sc sf so n p fk fp t k c f o bt bk bn ln ks la nx py fi rb de wt wk wn) hx hb hrt hlocks (⟨_, _, by decide, rfl, hq, rfl, rfl, rfl⟩) rfl hK hP hD hS d_W_plan_33
      · skip
        exact yt_S (ws := wW G h np no dg tl sk sc sf so n p fk fp t k c f o bt bk bn ln ks la nx py fi rb de wt wk wn) hx hb hlt hown xo_W_100_104 (nw_301 hE.1) (sr_647 hE.2.1) hg hE hK hP hD hS hA hml hl.1 hxt hlocks d_W_plan_18 d_W_plan_21 d_W_plan_22 d_W_plan_24 d_W_plan_27 (by decide) (by decide) (⟨Or.inr ⟨_, by decide, rfl, by first | exact Or.inl c7 | exact Or.inr (Int32.not_lt.mp c15)⟩, rfl, rfl⟩) rfl
  · skip
    refine lv_astore_n (lv' := [(3, .ref (h 11)), (0, .ref (h 0)), (1, .int (nI 3)), (2, .int i)]) hx hb d_W_plan_5 rfl hl (by decide) rfl (fun ls hl => ?_)
    refine lv_iload_n hx hb d_W_plan_6 rfl (lv_at hl 3 rfl) ?_
    refine lv_if_lt (tgt := 18) hx hb d_W_plan_7 (by decide) (fun c7 => ?_) (fun c7 => ?_)
    · skip
      exact yt_S (ws := wW G h np no dg tl sk sc sf so n p fk fp t k c f o bt bk bn ln ks la nx py fi rb de wt wk wn) hx hb hlt hown xo_W_100_104 (nw_301 hE.1) (sr_647 hE.2.1) hg hE hK hP hD hS hA hml hl.1 hxt hlocks d_W_plan_18 d_W_plan_21 d_W_plan_22 d_W_plan_24 d_W_plan_27 (by decide) (by decide) (⟨Or.inr ⟨_, by decide, rfl, by first | exact Or.inl c7 | exact Or.inr (Int32.not_lt.mp c15)⟩, rfl, rfl⟩) rfl
    · skip
      refine lv_iload_n hx hb d_W_plan_10 rfl (lv_at hl 3 rfl) ?_
      refine lv_aload_n hx hb d_W_plan_11 rfl (lv_at hl 0 rfl) ?_
      refine va_getN (D := gD G) (ci := 2) (v := .int (nI (sk 3))) (C := "WordShapes$Shape") (T := TS) (N := 4) hx hb hg iw_S hown hK hP 11 rfl rfl 2 (by decide) (va_Nw.use rfl (nw_46 hE.1)) (fun _ h9 => h9) rfl d_W_plan_12 ?_
      refine lv_icmp_lt (tgt := 28) hx hb d_W_plan_15 (by decide) (fun c15 => ?_) (fun c15 => ?_)
      · skip
        have hsk9 := hsk 3
        have hsc9 := hsc 3
        obtain ⟨q, hq, rfl⟩ : ∃ q : Nat, q < sk 3 ∧ i = nI q := by rcases pk_ix i (n := sk 3) (by omega) with q9 | q9 | q9; exact absurd q9 c7; exact absurd c15 (Int32.not_lt.mpr q9); exact q9
        refine lv_aload_n hx hb d_W_plan_28 rfl (lv_at hl 0 rfl) ?_
        refine lv_iload_n hx hb d_W_plan_29 rfl (lv_at hl 3 rfl) ?_
        refine y_call (y_runV (As := [.int (nI q)]) (rest := []) hx hb hml hown (c_S_numberAt l G (fun i => h (i + 11)) np no (sk 3) (sc 3) (sf 3) (so 3) q (by omega) (by omega) (by omega)) (gV (n := 1) hg tk_537 tk_538 tk_539 tk_3 tk_540 (by decide +kernel) ⟨Nat.le_of_ble_eq_true rfl, Nat.le_of_ble_eq_true rfl⟩) (va_recv hK hP (ci := 2) (q0 := 11) rfl rfl) (y_pre hE hK hP hD hS hA [11, 12, 13] rfl rfl) rfl rfl hl.1 rfl (lv_room (Nat.le_of_ble_eq_true rfl)) d_W_plan_30 ⟨Nat.le_of_ble_eq_true rfl, Nat.le_of_ble_eq_true rfl⟩) hP hD hS hA [11, 12, 13] rfl (fun _ _ _ _ _ _ hp => False.elim hp) (fun v9 w9 H locs hp hlw hP hD hS => ?_)
        obtain ⟨rfl, rfl⟩ := hp
        have hP : va_P (gD G) vwC (wW G h np no dg tl sk sc sf so n p fk fp t k c f o bt bk bn ln ks la nx py fi rb de wt wk wn) H := hP
        have hD : va_D A (wW G h np no dg tl sk sc sf so n p fk fp t k c f o bt bk bn ln ks la nx py fi rb de wt wk wn) := hD
        refine W.eq (g2 := F0 mm 33 ls [.int (if q < (sk 3) then (sf 3) q else 0)]) rfl ?_
        refine y_eqi (y := sf 3 q) (if_pos hq) ?_
        exact yr_i (ws := wW G h np no dg tl sk sc sf so n p fk fp t k c f o bt bk bn ln ks la nx py fi rb de wt wk wn) hx hb hrt hlocks (⟨_, _, by decide, rfl, hq, rfl, rfl, rfl⟩) rfl hK hP hD hS d_W_plan_33
      · skip
        exact yt_S (ws := wW G h np no dg tl sk sc sf so n p fk fp t k c f o bt bk bn ln ks la nx py fi rb de wt wk wn) hx hb hlt hown xo_W_100_104 (nw_301 hE.1) (sr_647 hE.2.1) hg hE hK hP hD hS hA hml hl.1 hxt hlocks d_W_plan_18 d_W_plan_21 d_W_plan_22 d_W_plan_24 d_W_plan_27 (by decide) (by decide) (⟨Or.inr ⟨_, by decide, rfl, by first | exact Or.inl c7 | exact Or.inr (Int32.not_lt.mp c15)⟩, rfl, rfl⟩) rfl
set_option maxHeartbeats 4000000 in
set_option maxRecDepth 100000 in
theorem c_W_ordinate {l : Launch} (hlt : l.stackTraces = false) (G : gl) (h : Nat → Nat) (np : Nat) (no : Nat) (dg : Nat) (tl : Nat) (sk : Nat → Nat) (sc : Nat → Nat) (sf : Nat → Nat → Int32) (so : Nat → Nat → Int32) (n : Nat) (p : Nat) (fk : Nat) (fp : Nat) (t : Nat → Nat) (k : Nat) (c : Nat) (f : Nat → Int32) (o : Nat → Int32) (bt : Nat) (bk : Nat → Int32) (bn : Nat → Int32) (ln : Nat) (ks : Bool) (la : Nat) (nx : Nat) (py : Nat) (fi : Bool) (rb : Nat → Nat) (de : Nat → Int32) (wt : Nat) (wk : Nat → Int32) (wn : Nat → Int32) (s : Int32) (i : Int32) (x : Int32) (hsk : ∀ j, sk j ≤ np) (hsc : ∀ j, 2 * sc j ≤ no) (hnp : np ≤ 4096) (hno : no ≤ 8192) : YC l G y_W_ordinate k_W_ordinate 5 (Option.some FieldType.int) 7 111 [.ref (h 0), .int s, .int i, .int x] (wW G h np no dg tl sk sc sf so n p fk fp t k c f o bt bk bn ln ks la nx py fi rb de wt wk wn) (fun v w => ∃ j q z, j < 4 ∧ s = nI j ∧ q < sc j ∧ i = nI q ∧ z ≤ 1 ∧ x = nI z ∧ v = some (.int (so j (2 * q + z))) ∧ w = wW G h np no dg tl sk sc sf so n p fk fp t k c f o bt bk bn ln ks la nx py fi rb de wt wk wn) (fun E w => ((s < 0 ∨ nI 4 ≤ s) ∨ ∃ j, j < 4 ∧ s = nI j ∧ (i < 0 ∨ nI (sc j) ≤ i ∨ x < 0 ∨ ¬ x ≤ nI 1)) ∧ E = "java/lang/IndexOutOfBoundsException" ∧ w = wW G h np no dg tl sk sc sf so n p fk fp t k c f o bt bk bn ln ks la nx py fi rb de wt wk wn) := by
  refine yc_of (by decide) ?_
  intro pg ev sx mm bl mt cd A C0 hP hD
  obtain ⟨hx, hb, hrt, hml, hown, hg, hlocks, hxt, hE, hK, hA, hmn⟩ := C0
  have hS : va_S A sx.heap sx.heap [] := va_S.rf
  have hl := lv_entry ([.ref (h 0), .int s, .int i, .int x]) (n := 5) (Nat.le_of_ble_eq_true rfl)
  rw [lg_entry_eq]
  generalize (lg_sl ([.ref (h 0), .int s, .int i, .int x]) ++ List.replicate (5 - (lg_sl ([.ref (h 0), .int s, .int i, .int x])).length) Slot.unset).toArray = ls at hl ⊢
  have hl : lv_has ls 5 [(0, .ref (h 0)), (1, .int s), (2, .int i), (3, .int x)] := hl
  obtain ⟨H, hH⟩ : ∃ H, H = sx.heap := ⟨_, rfl⟩
  rw [← hH] at hP
  have hS : va_S A sx.heap H [] := by rw [hH]; exact hS
  suffices h9 : W pg l ev (yR 7 111) sx mm _ bl mt cd H [] 0 0 (yMQ bl G A _ _ _ _ sx) (F0 mm 0 ls []) by rw [hH] at h9; exact h9
  obtain ⟨locs, hlo⟩ : ∃ locs : List Loc, locs = [] := ⟨_, rfl⟩
  rw [← hlo] at hS ⊢
  refine lv_aload_n hx hb d_W_ordinate_0 rfl (lv_at hl 0 rfl) ?_
  refine lv_iload_n hx hb d_W_ordinate_1 rfl (lv_at hl 1 rfl) ?_
  refine y_callW (y_runV (As := [.int s]) (rest := []) hx hb hml hown (c_W_shapeIn hlt G h np no dg tl sk sc sf so n p fk fp t k c f o bt bk bn ln ks la nx py fi rb de wt wk wn s ) (gV (n := 1) hg tk_295 tk_297 (gt_s 2 (by decide +kernel) (by decide +kernel)) tk_1 tk_298 (by decide +kernel) ⟨Nat.le_of_ble_eq_true rfl, Nat.le_of_ble_eq_true rfl⟩) (va_recv hK hP (ci := 4) (q0 := 0) rfl rfl) (y_preW hE hK hP hD hS hA) rfl rfl hl.1 rfl (lv_room (Nat.le_of_ble_eq_true rfl)) d_W_ordinate_2 ⟨Nat.le_of_ble_eq_true rfl, Nat.le_of_ble_eq_true rfl⟩) hD hS hA (fun E9 w9 qx cx H locs hp hlw hP hD hS hq1 hq2 hq3 => ?_) (fun v9 w9 H locs hp hlw hP hD hS => ?_)
  · skip
    obtain ⟨hc_2, rfl, rfl⟩ := hp
    have hP : va_P (gD G) vwC (wW G h np no dg tl sk sc sf so n p fk fp t k c f o bt bk bn ln ks la nx py fi rb de wt wk wn) H := hP
    have hD : va_D A (wW G h np no dg tl sk sc sf so n p fk fp t k c f o bt bk bn ln ks la nx py fi rb de wt wk wn) := hD
    exact y_out (ws := wW G h np no dg tl sk sc sf so n p fk fp t k c f o bt bk bn ln ks la nx py fi rb de wt wk wn) hxt hlocks hq1 hq2 hq3 (⟨Or.inl hc_2, rfl, rfl⟩) rfl hK hP hD hS
  obtain ⟨j_2, hj_2, rfl, rfl, rfl⟩ := hp
  have hP : va_P (gD G) vwC (wW G h np no dg tl sk sc sf so n p fk fp t k c f o bt bk bn ln ks la nx py fi rb de wt wk wn) H := hP
  have hD : va_D A (wW G h np no dg tl sk sc sf so n p fk fp t k c f o bt bk bn ln ks la nx py fi rb de wt wk wn) := hD
  refine W.eq (g2 := F0 mm 5 ls [.ref (h (2 + 3 * j_2))]) rfl ?_
  rcases (show j_2 = 0 ∨ j_2 = 1 ∨ j_2 = 2 ∨ j_2 = 3 by omega) with rfl | rfl | rfl | rfl
  · skip
    refine lv_astore (lv' := [(4, .ref (h 2)), (0, .ref (h 0)), (1, .int (nI 0)), (2, .int i), (3, .int x)]) hx hb d_W_ordinate_5 hl (by decide) rfl (fun ls hl => ?_)
    refine lv_iload_n hx hb d_W_ordinate_7 rfl (lv_at hl 3 rfl) ?_
    refine lv_if_lt (tgt := 20) hx hb d_W_ordinate_8 (by decide) (fun c8 => ?_) (fun c8 => ?_)
    · skip
      exact yt_S (ws := wW G h np no dg tl sk sc sf so n p fk fp t k c f o bt bk bn ln ks la nx py fi rb de wt wk wn) hx hb hlt hown xo_W_100_104 (nw_301 hE.1) (sr_655 hE.2.1) hg hE hK hP hD hS hA hml hl.1 hxt hlocks d_W_ordinate_20 d_W_ordinate_23 d_W_ordinate_24 d_W_ordinate_26 d_W_ordinate_29 (by decide) (by decide) (⟨Or.inr ⟨_, by decide, rfl, by first | exact Or.inl c8 | exact Or.inr (Or.inl (Int32.not_lt.mp c17))⟩, rfl, rfl⟩) rfl
    · skip
      refine lv_iload_n hx hb d_W_ordinate_11 rfl (lv_at hl 3 rfl) ?_
      refine lv_aload hx hb d_W_ordinate_12 (lv_at hl 0 rfl) ?_
      refine va_getN (D := gD G) (ci := 2) (v := .int (nI (sc 0))) (C := "WordShapes$Shape") (T := TS) (N := 4) hx hb hg iw_S hown hK hP 2 rfl rfl 3 (by decide) (va_Nw.use rfl (nw_49 hE.1)) (fun _ h9 => h9) rfl d_W_ordinate_14 ?_
      refine lv_icmp_lt (tgt := 30) hx hb d_W_ordinate_17 (by decide) (fun c17 => ?_) (fun c17 => ?_)
      · skip
        have hsk9 := hsk 0
        have hsc9 := hsc 0
        obtain ⟨q, hq, rfl⟩ : ∃ q : Nat, q < sc 0 ∧ i = nI q := by rcases pk_ix i (n := sc 0) (by omega) with q9 | q9 | q9; exact absurd q9 c8; exact absurd c17 (Int32.not_lt.mpr q9); exact q9
        refine lv_iload_n hx hb d_W_ordinate_30 rfl (lv_at hl 4 rfl) ?_
        refine lv_if_lt (tgt := 39) hx hb d_W_ordinate_31 (by decide) (fun c31 => ?_) (fun c31 => ?_)
        · skip
          exact yt_S (ws := wW G h np no dg tl sk sc sf so n p fk fp t k c f o bt bk bn ln ks la nx py fi rb de wt wk wn) hx hb hlt hown xo_W_100_104 (nw_301 hE.1) (sr_656 hE.2.1) hg hE hK hP hD hS hA hml hl.1 hxt hlocks d_W_ordinate_39 d_W_ordinate_42 d_W_ordinate_43 d_W_ordinate_45 d_W_ordinate_48 (by decide) (by decide) (⟨Or.inr ⟨_, by decide, rfl, by first | exact Or.inr (Or.inr (Or.inl c31)) | exact Or.inr (Or.inr (Or.inr c36))⟩, rfl, rfl⟩) rfl
        · skip
          refine lv_iload_n hx hb d_W_ordinate_34 rfl (lv_at hl 4 rfl) ?_
          refine lv_iconst (v := nI 1) hx hb d_W_ordinate_35 (by decide) ?_
          refine lv_icmp_le (tgt := 49) hx hb d_W_ordinate_36 (by decide) (fun c36 => ?_) (fun c36 => ?_)
          · skip
            obtain ⟨z, hz, rfl⟩ : ∃ z : Nat, z ≤ 1 ∧ x = nI z := nI_of2 (M := nI 1) (by decide) c31 c36
            refine lv_aload hx hb d_W_ordinate_49 (lv_at hl 0 rfl) ?_
            refine lv_iload_n hx hb d_W_ordinate_51 rfl (lv_at hl 3 rfl) ?_
            refine lv_iload_n hx hb d_W_ordinate_52 rfl (lv_at hl 4 rfl) ?_
            refine y_call (y_runV (As := [.int (nI q), .int (nI z)]) (rest := []) hx hb hml hown (c_S_ordinateAt l G (fun i => h (i + 2)) np no (sk 0) (sc 0) (sf 0) (so 0) q z (by omega) (by omega) (by omega) (by omega)) (gV (n := 2) hg tk_657 tk_604 tk_605 tk_3 tk_606 (by decide +kernel) ⟨Nat.le_of_ble_eq_true rfl, Nat.le_of_ble_eq_true rfl⟩) (va_recv hK hP (ci := 2) (q0 := 2) rfl rfl) (y_pre hE hK hP hD hS hA [2, 3, 4] rfl rfl) rfl rfl hl.1 rfl (lv_room (Nat.le_of_ble_eq_true rfl)) d_W_ordinate_53 ⟨Nat.le_of_ble_eq_true rfl, Nat.le_of_ble_eq_true rfl⟩) hP hD hS hA [2, 3, 4] rfl (fun _ _ _ _ _ _ hp => False.elim hp) (fun v9 w9 H locs hp hlw hP hD hS => ?_)
            obtain ⟨rfl, rfl⟩ := hp
            have hP : va_P (gD G) vwC (wW G h np no dg tl sk sc sf so n p fk fp t k c f o bt bk bn ln ks la nx py fi rb de wt wk wn) H := hP
            have hD : va_D A (wW G h np no dg tl sk sc sf so n p fk fp t k c f o bt bk bn ln ks la nx py fi rb de wt wk wn) := hD
            refine W.eq (g2 := F0 mm 56 ls [.int (if q < (sc 0) then (so 0) (2 * q + z) else 0)]) rfl ?_
            refine y_eqi (y := so 0 (2 * q + z)) (if_pos hq) ?_
            exact yr_i (ws := wW G h np no dg tl sk sc sf so n p fk fp t k c f o bt bk bn ln ks la nx py fi rb de wt wk wn) hx hb hrt hlocks (⟨_, _, _, by decide, rfl, hq, rfl, hz, rfl, rfl, rfl⟩) rfl hK hP hD hS d_W_ordinate_56
          · skip
            exact yt_S (ws := wW G h np no dg tl sk sc sf so n p fk fp t k c f o bt bk bn ln ks la nx py fi rb de wt wk wn) hx hb hlt hown xo_W_100_104 (nw_301 hE.1) (sr_656 hE.2.1) hg hE hK hP hD hS hA hml hl.1 hxt hlocks d_W_ordinate_39 d_W_ordinate_42 d_W_ordinate_43 d_W_ordinate_45 d_W_ordinate_48 (by decide) (by decide) (⟨Or.inr ⟨_, by decide, rfl, by first | exact Or.inr (Or.inr (Or.inl c31)) | exact Or.inr (Or.inr (Or.inr c36))⟩, rfl, rfl⟩) rfl
      · skip
        exact yt_S (ws := wW G h np no dg tl sk sc sf so n p fk fp t k c f o bt bk bn ln ks la nx py fi rb de wt wk wn) hx hb hlt hown xo_W_100_104 (nw_301 hE.1) (sr_655 hE.2.1) hg hE hK hP hD hS hA hml hl.1 hxt hlocks d_W_ordinate_20 d_W_ordinate_23 d_W_ordinate_24 d_W_ordinate_26 d_W_ordinate_29 (by decide) (by decide) (⟨Or.inr ⟨_, by decide, rfl, by first | exact Or.inl c8 | exact Or.inr (Or.inl (Int32.not_lt.mp c17))⟩, rfl, rfl⟩) rfl
  · skip
    refine lv_astore (lv' := [(4, .ref (h 5)), (0, .ref (h 0)), (1, .int (nI 1)), (2, .int i), (3, .int x)]) hx hb d_W_ordinate_5 hl (by decide) rfl (fun ls hl => ?_)
    refine lv_iload_n hx hb d_W_ordinate_7 rfl (lv_at hl 3 rfl) ?_
    refine lv_if_lt (tgt := 20) hx hb d_W_ordinate_8 (by decide) (fun c8 => ?_) (fun c8 => ?_)
    · skip
      exact yt_S (ws := wW G h np no dg tl sk sc sf so n p fk fp t k c f o bt bk bn ln ks la nx py fi rb de wt wk wn) hx hb hlt hown xo_W_100_104 (nw_301 hE.1) (sr_655 hE.2.1) hg hE hK hP hD hS hA hml hl.1 hxt hlocks d_W_ordinate_20 d_W_ordinate_23 d_W_ordinate_24 d_W_ordinate_26 d_W_ordinate_29 (by decide) (by decide) (⟨Or.inr ⟨_, by decide, rfl, by first | exact Or.inl c8 | exact Or.inr (Or.inl (Int32.not_lt.mp c17))⟩, rfl, rfl⟩) rfl
    · skip
      refine lv_iload_n hx hb d_W_ordinate_11 rfl (lv_at hl 3 rfl) ?_
      refine lv_aload hx hb d_W_ordinate_12 (lv_at hl 0 rfl) ?_
      refine va_getN (D := gD G) (ci := 2) (v := .int (nI (sc 1))) (C := "WordShapes$Shape") (T := TS) (N := 4) hx hb hg iw_S hown hK hP 5 rfl rfl 3 (by decide) (va_Nw.use rfl (nw_49 hE.1)) (fun _ h9 => h9) rfl d_W_ordinate_14 ?_
      refine lv_icmp_lt (tgt := 30) hx hb d_W_ordinate_17 (by decide) (fun c17 => ?_) (fun c17 => ?_)
      · skip
        have hsk9 := hsk 1
        have hsc9 := hsc 1
        obtain ⟨q, hq, rfl⟩ : ∃ q : Nat, q < sc 1 ∧ i = nI q := by rcases pk_ix i (n := sc 1) (by omega) with q9 | q9 | q9; exact absurd q9 c8; exact absurd c17 (Int32.not_lt.mpr q9); exact q9
        refine lv_iload_n hx hb d_W_ordinate_30 rfl (lv_at hl 4 rfl) ?_
        refine lv_if_lt (tgt := 39) hx hb d_W_ordinate_31 (by decide) (fun c31 => ?_) (fun c31 => ?_)
        · skip
          exact yt_S (ws := wW G h np no dg tl sk sc sf so n p fk fp t k c f o bt bk bn ln ks la nx py fi rb de wt wk wn) hx hb hlt hown xo_W_100_104 (nw_301 hE.1) (sr_656 hE.2.1) hg hE hK hP hD hS hA hml hl.1 hxt hlocks d_W_ordinate_39 d_W_ordinate_42 d_W_ordinate_43 d_W_ordinate_45 d_W_ordinate_48 (by decide) (by decide) (⟨Or.inr ⟨_, by decide, rfl, by first | exact Or.inr (Or.inr (Or.inl c31)) | exact Or.inr (Or.inr (Or.inr c36))⟩, rfl, rfl⟩) rfl
        · skip
          refine lv_iload_n hx hb d_W_ordinate_34 rfl (lv_at hl 4 rfl) ?_
          refine lv_iconst (v := nI 1) hx hb d_W_ordinate_35 (by decide) ?_
          refine lv_icmp_le (tgt := 49) hx hb d_W_ordinate_36 (by decide) (fun c36 => ?_) (fun c36 => ?_)
          · skip
            obtain ⟨z, hz, rfl⟩ : ∃ z : Nat, z ≤ 1 ∧ x = nI z := nI_of2 (M := nI 1) (by decide) c31 c36
            refine lv_aload hx hb d_W_ordinate_49 (lv_at hl 0 rfl) ?_
            refine lv_iload_n hx hb d_W_ordinate_51 rfl (lv_at hl 3 rfl) ?_
            refine lv_iload_n hx hb d_W_ordinate_52 rfl (lv_at hl 4 rfl) ?_
            refine y_call (y_runV (As := [.int (nI q), .int (nI z)]) (rest := []) hx hb hml hown (c_S_ordinateAt l G (fun i => h (i + 5)) np no (sk 1) (sc 1) (sf 1) (so 1) q z (by omega) (by omega) (by omega) (by omega)) (gV (n := 2) hg tk_657 tk_604 tk_605 tk_3 tk_606 (by decide +kernel) ⟨Nat.le_of_ble_eq_true rfl, Nat.le_of_ble_eq_true rfl⟩) (va_recv hK hP (ci := 2) (q0 := 5) rfl rfl) (y_pre hE hK hP hD hS hA [5, 6, 7] rfl rfl) rfl rfl hl.1 rfl (lv_room (Nat.le_of_ble_eq_true rfl)) d_W_ordinate_53 ⟨Nat.le_of_ble_eq_true rfl, Nat.le_of_ble_eq_true rfl⟩) hP hD hS hA [5, 6, 7] rfl (fun _ _ _ _ _ _ hp => False.elim hp) (fun v9 w9 H locs hp hlw hP hD hS => ?_)
            obtain ⟨rfl, rfl⟩ := hp
            have hP : va_P (gD G) vwC (wW G h np no dg tl sk sc sf so n p fk fp t k c f o bt bk bn ln ks la nx py fi rb de wt wk wn) H := hP
            have hD : va_D A (wW G h np no dg tl sk sc sf so n p fk fp t k c f o bt bk bn ln ks la nx py fi rb de wt wk wn) := hD
            refine W.eq (g2 := F0 mm 56 ls [.int (if q < (sc 1) then (so 1) (2 * q + z) else 0)]) rfl ?_
            refine y_eqi (y := so 1 (2 * q + z)) (if_pos hq) ?_
            exact yr_i (ws := wW G h np no dg tl sk sc sf so n p fk fp t k c f o bt bk bn ln ks la nx py fi rb de wt wk wn) hx hb hrt hlocks (⟨_, _, _, by decide, rfl, hq, rfl, hz, rfl, rfl, rfl⟩) rfl hK hP hD hS d_W_ordinate_56
          · skip
            exact yt_S (ws := wW G h np no dg tl sk sc sf so n p fk fp t k c f o bt bk bn ln ks la nx py fi rb de wt wk wn) hx hb hlt hown xo_W_100_104 (nw_301 hE.1) (sr_656 hE.2.1) hg hE hK hP hD hS hA hml hl.1 hxt hlocks d_W_ordinate_39 d_W_ordinate_42 d_W_ordinate_43 d_W_ordinate_45 d_W_ordinate_48 (by decide) (by decide) (⟨Or.inr ⟨_, by decide, rfl, by first | exact Or.inr (Or.inr (Or.inl c31)) | exact Or.inr (Or.inr (Or.inr c36))⟩, rfl, rfl⟩) rfl
      · skip
        exact yt_S (ws := wW G h np no dg tl sk sc sf so n p fk fp t k c f o bt bk bn ln ks la nx py fi rb de wt wk wn) hx hb hlt hown xo_W_100_104 (nw_301 hE.1) (sr_655 hE.2.1) hg hE hK hP hD hS hA hml hl.1 hxt hlocks d_W_ordinate_20 d_W_ordinate_23 d_W_ordinate_24 d_W_ordinate_26 d_W_ordinate_29 (by decide) (by decide) (⟨Or.inr ⟨_, by decide, rfl, by first | exact Or.inl c8 | exact Or.inr (Or.inl (Int32.not_lt.mp c17))⟩, rfl, rfl⟩) rfl
  · skip
    refine lv_astore (lv' := [(4, .ref (h 8)), (0, .ref (h 0)), (1, .int (nI 2)), (2, .int i), (3, .int x)]) hx hb d_W_ordinate_5 hl (by decide) rfl (fun ls hl => ?_)
    refine lv_iload_n hx hb d_W_ordinate_7 rfl (lv_at hl 3 rfl) ?_
    refine lv_if_lt (tgt := 20) hx hb d_W_ordinate_8 (by decide) (fun c8 => ?_) (fun c8 => ?_)
    · skip
      exact yt_S (ws := wW G h np no dg tl sk sc sf so n p fk fp t k c f o bt bk bn ln ks la nx py fi rb de wt wk wn) hx hb hlt hown xo_W_100_104 (nw_301 hE.1) (sr_655 hE.2.1) hg hE hK hP hD hS hA hml hl.1 hxt hlocks d_W_ordinate_20 d_W_ordinate_23 d_W_ordinate_24 d_W_ordinate_26 d_W_ordinate_29 (by decide) (by decide) (⟨Or.inr ⟨_, by decide, rfl, by first | exact Or.inl c8 | exact Or.inr (Or.inl (Int32.not_lt.mp c17))⟩, rfl, rfl⟩) rfl
    · skip
      refine lv_iload_n hx hb d_W_ordinate_11 rfl (lv_at hl 3 rfl) ?_
      refine lv_aload hx hb d_W_ordinate_12 (lv_at hl 0 rfl) ?_
      refine va_getN (D := gD G) (ci := 2) (v := .int (nI (sc 2))) (C := "WordShapes$Shape") (T := TS) (N := 4) hx hb hg iw_S hown hK hP 8 rfl rfl 3 (by decide) (va_Nw.use rfl (nw_49 hE.1)) (fun _ h9 => h9) rfl d_W_ordinate_14 ?_
      refine lv_icmp_lt (tgt := 30) hx hb d_W_ordinate_17 (by decide) (fun c17 => ?_) (fun c17 => ?_)
      · skip
        have hsk9 := hsk 2
        have hsc9 := hsc 2
        obtain ⟨q, hq, rfl⟩ : ∃ q : Nat, q < sc 2 ∧ i = nI q := by rcases pk_ix i (n := sc 2) (by omega) with q9 | q9 | q9; exact absurd q9 c8; exact absurd c17 (Int32.not_lt.mpr q9); exact q9
        refine lv_iload_n hx hb d_W_ordinate_30 rfl (lv_at hl 4 rfl) ?_
        refine lv_if_lt (tgt := 39) hx hb d_W_ordinate_31 (by decide) (fun c31 => ?_) (fun c31 => ?_)
        · skip
          exact yt_S (ws := wW G h np no dg tl sk sc sf so n p fk fp t k c f o bt bk bn ln ks la nx py fi rb de wt wk wn) hx hb hlt hown xo_W_100_104 (nw_301 hE.1) (sr_656 hE.2.1) hg hE hK hP hD hS hA hml hl.1 hxt hlocks d_W_ordinate_39 d_W_ordinate_42 d_W_ordinate_43 d_W_ordinate_45 d_W_ordinate_48 (by decide) (by decide) (⟨Or.inr ⟨_, by decide, rfl, by first | exact Or.inr (Or.inr (Or.inl c31)) | exact Or.inr (Or.inr (Or.inr c36))⟩, rfl, rfl⟩) rfl
        · skip
          refine lv_iload_n hx hb d_W_ordinate_34 rfl (lv_at hl 4 rfl) ?_
          refine lv_iconst (v := nI 1) hx hb d_W_ordinate_35 (by decide) ?_
          refine lv_icmp_le (tgt := 49) hx hb d_W_ordinate_36 (by decide) (fun c36 => ?_) (fun c36 => ?_)
          · skip
            obtain ⟨z, hz, rfl⟩ : ∃ z : Nat, z ≤ 1 ∧ x = nI z := nI_of2 (M := nI 1) (by decide) c31 c36
            refine lv_aload hx hb d_W_ordinate_49 (lv_at hl 0 rfl) ?_
            refine lv_iload_n hx hb d_W_ordinate_51 rfl (lv_at hl 3 rfl) ?_
            refine lv_iload_n hx hb d_W_ordinate_52 rfl (lv_at hl 4 rfl) ?_
            refine y_call (y_runV (As := [.int (nI q), .int (nI z)]) (rest := []) hx hb hml hown (c_S_ordinateAt l G (fun i => h (i + 8)) np no (sk 2) (sc 2) (sf 2) (so 2) q z (by omega) (by omega) (by omega) (by omega)) (gV (n := 2) hg tk_657 tk_604 tk_605 tk_3 tk_606 (by decide +kernel) ⟨Nat.le_of_ble_eq_true rfl, Nat.le_of_ble_eq_true rfl⟩) (va_recv hK hP (ci := 2) (q0 := 8) rfl rfl) (y_pre hE hK hP hD hS hA [8, 9, 10] rfl rfl) rfl rfl hl.1 rfl (lv_room (Nat.le_of_ble_eq_true rfl)) d_W_ordinate_53 ⟨Nat.le_of_ble_eq_true rfl, Nat.le_of_ble_eq_true rfl⟩) hP hD hS hA [8, 9, 10] rfl (fun _ _ _ _ _ _ hp => False.elim hp) (fun v9 w9 H locs hp hlw hP hD hS => ?_)
            obtain ⟨rfl, rfl⟩ := hp
            have hP : va_P (gD G) vwC (wW G h np no dg tl sk sc sf so n p fk fp t k c f o bt bk bn ln ks la nx py fi rb de wt wk wn) H := hP
            have hD : va_D A (wW G h np no dg tl sk sc sf so n p fk fp t k c f o bt bk bn ln ks la nx py fi rb de wt wk wn) := hD
            refine W.eq (g2 := F0 mm 56 ls [.int (if q < (sc 2) then (so 2) (2 * q + z) else 0)]) rfl ?_
            refine y_eqi (y := so 2 (2 * q + z)) (if_pos hq) ?_
            exact yr_i (ws := wW G h np no dg tl sk sc sf so n p fk fp t k c f o bt bk bn ln ks la nx py fi rb de wt wk wn) hx hb hrt hlocks (⟨_, _, _, by decide, rfl, hq, rfl, hz, rfl, rfl, rfl⟩) rfl hK hP hD hS d_W_ordinate_56
          · skip
            exact yt_S (ws := wW G h np no dg tl sk sc sf so n p fk fp t k c f o bt bk bn ln ks la nx py fi rb de wt wk wn) hx hb hlt hown xo_W_100_104 (nw_301 hE.1) (sr_656 hE.2.1) hg hE hK hP hD hS hA hml hl.1 hxt hlocks d_W_ordinate_39 d_W_ordinate_42 d_W_ordinate_43 d_W_ordinate_45 d_W_ordinate_48 (by decide) (by decide) (⟨Or.inr ⟨_, by decide, rfl, by first | exact Or.inr (Or.inr (Or.inl c31)) | exact Or.inr (Or.inr (Or.inr c36))⟩, rfl, rfl⟩) rfl
      · skip
        exact yt_S (ws := wW G h np no dg tl sk sc sf so n p fk fp t k c f o bt bk bn ln ks la nx py fi rb de wt wk wn) hx hb hlt hown xo_W_100_104 (nw_301 hE.1) (sr_655 hE.2.1) hg hE hK hP hD hS hA hml hl.1 hxt hlocks d_W_ordinate_20 d_W_ordinate_23 d_W_ordinate_24 d_W_ordinate_26 d_W_ordinate_29 (by decide) (by decide) (⟨Or.inr ⟨_, by decide, rfl, by first | exact Or.inl c8 | exact Or.inr (Or.inl (Int32.not_lt.mp c17))⟩, rfl, rfl⟩) rfl
  · skip
    refine lv_astore (lv' := [(4, .ref (h 11)), (0, .ref (h 0)), (1, .int (nI 3)), (2, .int i), (3, .int x)]) hx hb d_W_ordinate_5 hl (by decide) rfl (fun ls hl => ?_)
    refine lv_iload_n hx hb d_W_ordinate_7 rfl (lv_at hl 3 rfl) ?_
    refine lv_if_lt (tgt := 20) hx hb d_W_ordinate_8 (by decide) (fun c8 => ?_) (fun c8 => ?_)
    · skip
      exact yt_S (ws := wW G h np no dg tl sk sc sf so n p fk fp t k c f o bt bk bn ln ks la nx py fi rb de wt wk wn) hx hb hlt hown xo_W_100_104 (nw_301 hE.1) (sr_655 hE.2.1) hg hE hK hP hD hS hA hml hl.1 hxt hlocks d_W_ordinate_20 d_W_ordinate_23 d_W_ordinate_24 d_W_ordinate_26 d_W_ordinate_29 (by decide) (by decide) (⟨Or.inr ⟨_, by decide, rfl, by first | exact Or.inl c8 | exact Or.inr (Or.inl (Int32.not_lt.mp c17))⟩, rfl, rfl⟩) rfl
    · skip
      refine lv_iload_n hx hb d_W_ordinate_11 rfl (lv_at hl 3 rfl) ?_
      refine lv_aload hx hb d_W_ordinate_12 (lv_at hl 0 rfl) ?_
      refine va_getN (D := gD G) (ci := 2) (v := .int (nI (sc 3))) (C := "WordShapes$Shape") (T := TS) (N := 4) hx hb hg iw_S hown hK hP 11 rfl rfl 3 (by decide) (va_Nw.use rfl (nw_49 hE.1)) (fun _ h9 => h9) rfl d_W_ordinate_14 ?_
      refine lv_icmp_lt (tgt := 30) hx hb d_W_ordinate_17 (by decide) (fun c17 => ?_) (fun c17 => ?_)
      · skip
        have hsk9 := hsk 3
        have hsc9 := hsc 3
        obtain ⟨q, hq, rfl⟩ : ∃ q : Nat, q < sc 3 ∧ i = nI q := by rcases pk_ix i (n := sc 3) (by omega) with q9 | q9 | q9; exact absurd q9 c8; exact absurd c17 (Int32.not_lt.mpr q9); exact q9
        refine lv_iload_n hx hb d_W_ordinate_30 rfl (lv_at hl 4 rfl) ?_
        refine lv_if_lt (tgt := 39) hx hb d_W_ordinate_31 (by decide) (fun c31 => ?_) (fun c31 => ?_)
        · skip
          exact yt_S (ws := wW G h np no dg tl sk sc sf so n p fk fp t k c f o bt bk bn ln ks la nx py fi rb de wt wk wn) hx hb hlt hown xo_W_100_104 (nw_301 hE.1) (sr_656 hE.2.1) hg hE hK hP hD hS hA hml hl.1 hxt hlocks d_W_ordinate_39 d_W_ordinate_42 d_W_ordinate_43 d_W_ordinate_45 d_W_ordinate_48 (by decide) (by decide) (⟨Or.inr ⟨_, by decide, rfl, by first | exact Or.inr (Or.inr (Or.inl c31)) | exact Or.inr (Or.inr (Or.inr c36))⟩, rfl, rfl⟩) rfl
        · skip
          refine lv_iload_n hx hb d_W_ordinate_34 rfl (lv_at hl 4 rfl) ?_
          refine lv_iconst (v := nI 1) hx hb d_W_ordinate_35 (by decide) ?_
          refine lv_icmp_le (tgt := 49) hx hb d_W_ordinate_36 (by decide) (fun c36 => ?_) (fun c36 => ?_)
          · skip
            obtain ⟨z, hz, rfl⟩ : ∃ z : Nat, z ≤ 1 ∧ x = nI z := nI_of2 (M := nI 1) (by decide) c31 c36
            refine lv_aload hx hb d_W_ordinate_49 (lv_at hl 0 rfl) ?_
            refine lv_iload_n hx hb d_W_ordinate_51 rfl (lv_at hl 3 rfl) ?_
            refine lv_iload_n hx hb d_W_ordinate_52 rfl (lv_at hl 4 rfl) ?_
            refine y_call (y_runV (As := [.int (nI q), .int (nI z)]) (rest := []) hx hb hml hown (c_S_ordinateAt l G (fun i => h (i + 11)) np no (sk 3) (sc 3) (sf 3) (so 3) q z (by omega) (by omega) (by omega) (by omega)) (gV (n := 2) hg tk_657 tk_604 tk_605 tk_3 tk_606 (by decide +kernel) ⟨Nat.le_of_ble_eq_true rfl, Nat.le_of_ble_eq_true rfl⟩) (va_recv hK hP (ci := 2) (q0 := 11) rfl rfl) (y_pre hE hK hP hD hS hA [11, 12, 13] rfl rfl) rfl rfl hl.1 rfl (lv_room (Nat.le_of_ble_eq_true rfl)) d_W_ordinate_53 ⟨Nat.le_of_ble_eq_true rfl, Nat.le_of_ble_eq_true rfl⟩) hP hD hS hA [11, 12, 13] rfl (fun _ _ _ _ _ _ hp => False.elim hp) (fun v9 w9 H locs hp hlw hP hD hS => ?_)
            obtain ⟨rfl, rfl⟩ := hp
            have hP : va_P (gD G) vwC (wW G h np no dg tl sk sc sf so n p fk fp t k c f o bt bk bn ln ks la nx py fi rb de wt wk wn) H := hP
            have hD : va_D A (wW G h np no dg tl sk sc sf so n p fk fp t k c f o bt bk bn ln ks la nx py fi rb de wt wk wn) := hD
            refine W.eq (g2 := F0 mm 56 ls [.int (if q < (sc 3) then (so 3) (2 * q + z) else 0)]) rfl ?_
            refine y_eqi (y := so 3 (2 * q + z)) (if_pos hq) ?_
            exact yr_i (ws := wW G h np no dg tl sk sc sf so n p fk fp t k c f o bt bk bn ln ks la nx py fi rb de wt wk wn) hx hb hrt hlocks (⟨_, _, _, by decide, rfl, hq, rfl, hz, rfl, rfl, rfl⟩) rfl hK hP hD hS d_W_ordinate_56
          · skip
            exact yt_S (ws := wW G h np no dg tl sk sc sf so n p fk fp t k c f o bt bk bn ln ks la nx py fi rb de wt wk wn) hx hb hlt hown xo_W_100_104 (nw_301 hE.1) (sr_656 hE.2.1) hg hE hK hP hD hS hA hml hl.1 hxt hlocks d_W_ordinate_39 d_W_ordinate_42 d_W_ordinate_43 d_W_ordinate_45 d_W_ordinate_48 (by decide) (by decide) (⟨Or.inr ⟨_, by decide, rfl, by first | exact Or.inr (Or.inr (Or.inl c31)) | exact Or.inr (Or.inr (Or.inr c36))⟩, rfl, rfl⟩) rfl
      · skip
        exact yt_S (ws := wW G h np no dg tl sk sc sf so n p fk fp t k c f o bt bk bn ln ks la nx py fi rb de wt wk wn) hx hb hlt hown xo_W_100_104 (nw_301 hE.1) (sr_655 hE.2.1) hg hE hK hP hD hS hA hml hl.1 hxt hlocks d_W_ordinate_20 d_W_ordinate_23 d_W_ordinate_24 d_W_ordinate_26 d_W_ordinate_29 (by decide) (by decide) (⟨Or.inr ⟨_, by decide, rfl, by first | exact Or.inl c8 | exact Or.inr (Or.inl (Int32.not_lt.mp c17))⟩, rfl, rfl⟩) rfl
set_option maxHeartbeats 4000000 in
set_option maxRecDepth 100000 in
theorem c_S_isLikeA (l : Launch) (G : gl) (h : Nat → Nat) (np : Nat) (no : Nat) (k : Nat) (c : Nat) (f : Nat → Int32) (o : Nat → Int32)  (hk : k ≤ np) (hc : 2 * c ≤ no) (hn : np < 2 ^ 20) (ho : no < 2 ^ 20) : YC l G y_S_isLike k_S_isLike 3 (Option.some FieldType.boolean) 0 0 [.ref (h 0), .ref (h 0)] (wS G h np no k c f o) (fun v w => v = some (.int (bz true)) ∧ w = wS G h np no k c f o) (fun _ _ => False) := by
  refine yc_of (by decide) ?_
  intro pg ev sx mm bl mt cd A C0 hP hD
  obtain ⟨hx, hb, hrt, hml, hown, hg, hlocks, hxt, hE, hK, hA, hmn⟩ := C0
  have hS : va_S A sx.heap sx.heap [] := va_S.rf
  have hl := lv_entry ([.ref (h 0), .ref (h 0)]) (n := 3) (Nat.le_of_ble_eq_true rfl)
  rw [lg_entry_eq]
  generalize (lg_sl ([.ref (h 0), .ref (h 0)]) ++ List.replicate (3 - (lg_sl ([.ref (h 0), .ref (h 0)])).length) Slot.unset).toArray = ls at hl ⊢
  have hl : lv_has ls 3 [(0, .ref (h 0)), (1, .ref (h 0))] := hl
  obtain ⟨H, hH⟩ : ∃ H, H = sx.heap := ⟨_, rfl⟩
  rw [← hH] at hP
  have hS : va_S A sx.heap H [] := by rw [hH]; exact hS
  suffices h9 : W pg l ev (yR 0 0) sx mm _ bl mt cd H [] 0 0 (yMQ bl G A _ _ _ _ sx) (F0 mm 0 ls []) by rw [hH] at h9; exact h9
  obtain ⟨locs, hlo⟩ : ∃ locs : List Loc, locs = [] := ⟨_, rfl⟩
  rw [← hlo] at hS ⊢
  have J59 : ∀ (n9 : Nat) (i : Nat) (hm9 : 2 * c - i < n9) (hi : i ≤ 2 * c) (H : Heap) (locs : List Loc) (ls : Array Slot), va_P (gD G) vwC (wS G h np no k c f o) H → va_D A (wS G h np no k c f o) → va_S A sx.heap H locs → lv_has ls 3 [(0, .ref (h 0)), (1, .ref (h 0)), (2, .int (nI i))] → W pg l ev (yR 0 0) sx mm ([.ref (h 0), .ref (h 0)] : List Value).toArray bl mt cd H locs 0 0 (yMQ bl G A (wS G h np no k c f o).length (fun v w => v = some (.int (bz true)) ∧ w = wS G h np no k c f o) (fun _ _ => False) ([.ref (h 0), .ref (h 0)] : List Value).toArray sx) (F0 mm 59 ls []) := by
    intro n9
    induction n9 with
    | zero => intro i hm9; exact absurd hm9 (Nat.not_lt_zero _)
    | succ n9 ih9 =>
      intro i hm9 hi H locs ls hP hD hS hl
      refine lv_iload_n hx hb d_S_isLike_59 rfl (lv_at hl 2 rfl) ?_
      refine lv_iconst (v := nI 2) hx hb d_S_isLike_60 (by decide) ?_
      refine lv_aload_n hx hb d_S_isLike_61 rfl (lv_at hl 0 rfl) ?_
      refine va_get (D := gD G) (ci := 2) (v := .int (nI c)) (C := "WordShapes$Shape") (T := TS) (N := 4) hx hb hg iw_S hown hK hP 0 rfl rfl 3 (by decide) (hg _ tk_47) (fun _ h9 => h9) rfl d_S_isLike_62 ?_
      refine lv_imul hx hb d_S_isLike_65 ?_
      refine y_eqi (pk_mul _ _) ?_
      refine yn_icmp_ge (a := i) (b := 2 * c) (tgt := 92) hx hb d_S_isLike_66 (by decide) (by omega) (by omega) (fun c66 => ?_) (fun c66 => ?_)
      · skip
        refine lv_iconst (v := nI 1) hx hb d_S_isLike_92 (by decide) ?_
        exact yr_z (ws := wS G h np no k c f o) hx hb hrt (rfl) hlocks (⟨rfl, rfl⟩) rfl hK hP hD hS d_S_isLike_93
      · skip
        refine lv_aload_n hx hb d_S_isLike_69 rfl (lv_at hl 0 rfl) ?_
        refine va_get (D := gD G) (ci := 2) (v := .ref (h 2)) (C := "WordShapes$Shape") (T := TS) (N := 4) hx hb hg iw_S hown hK hP 0 rfl rfl 1 (by decide) (hg _ tk_42) (fun _ h9 => h9) rfl d_S_isLike_70 ?_
        refine lv_iload_n hx hb d_S_isLike_73 rfl (lv_at hl 2 rfl) ?_
        refine yn_iald hx hb hK hP 2 0 rfl rfl (j := i) (x := o i) (rfl) (by omega) (by omega) d_S_isLike_74 ?_
        refine lv_aload_n hx hb d_S_isLike_75 rfl (lv_at hl 1 rfl) ?_
        refine va_get (D := gD G) (ci := 2) (v := .ref (h 2)) (C := "WordShapes$Shape") (T := TS) (N := 4) hx hb hg iw_S hown hK hP 0 rfl rfl 1 (by decide) (hg _ tk_42) (fun _ h9 => h9) rfl d_S_isLike_76 ?_
        refine lv_iload_n hx hb d_S_isLike_79 rfl (lv_at hl 2 rfl) ?_
        refine yn_iald hx hb hK hP 2 0 rfl rfl (j := i) (x := o i) (rfl) (by omega) (by omega) d_S_isLike_80 ?_
        refine lv_icmp_eq (tgt := 86) hx hb d_S_isLike_81 (by decide) (fun c81 => ?_) (fun c81 => ?_)
        · skip
          refine lv_iinc (v := nI (i + 1)) (lv' := [(2, .int (nI (i + 1))), (0, .ref (h 0)), (1, .ref (h 0))]) hx hb d_S_isLike_86 hl (k := 2) rfl (y_inc _) (by decide) rfl (fun ls hl => ?_)
          refine lv_goto (tgt := 59) hx hb d_S_isLike_89 (by decide) ?_
          exact ih9 (i + 1) (by omega) (by omega) _ _ _ hP hD hS (lv_sub hl [1, 2, 0] (rfl))
        · skip
          exact absurd rfl c81
  have J26 : ∀ (n9 : Nat) (i : Nat) (hm9 : k - i < n9) (hi : i ≤ k) (H : Heap) (locs : List Loc) (ls : Array Slot), va_P (gD G) vwC (wS G h np no k c f o) H → va_D A (wS G h np no k c f o) → va_S A sx.heap H locs → lv_has ls 3 [(0, .ref (h 0)), (1, .ref (h 0)), (2, .int (nI i))] → W pg l ev (yR 0 0) sx mm ([.ref (h 0), .ref (h 0)] : List Value).toArray bl mt cd H locs 0 0 (yMQ bl G A (wS G h np no k c f o).length (fun v w => v = some (.int (bz true)) ∧ w = wS G h np no k c f o) (fun _ _ => False) ([.ref (h 0), .ref (h 0)] : List Value).toArray sx) (F0 mm 26 ls []) := by
    intro n9
    induction n9 with
    | zero => intro i hm9; exact absurd hm9 (Nat.not_lt_zero _)
    | succ n9 ih9 =>
      intro i hm9 hi H locs ls hP hD hS hl
      refine lv_iload_n hx hb d_S_isLike_26 rfl (lv_at hl 2 rfl) ?_
      refine lv_aload_n hx hb d_S_isLike_27 rfl (lv_at hl 0 rfl) ?_
      refine va_get (D := gD G) (ci := 2) (v := .int (nI k)) (C := "WordShapes$Shape") (T := TS) (N := 4) hx hb hg iw_S hown hK hP 0 rfl rfl 2 (by decide) (hg _ tk_43) (fun _ h9 => h9) rfl d_S_isLike_28 ?_
      refine yn_icmp_ge (a := i) (b := k) (tgt := 57) hx hb d_S_isLike_31 (by decide) (by omega) (by omega) (fun c31 => ?_) (fun c31 => ?_)
      · skip
        refine lv_iconst (v := nI 0) hx hb d_S_isLike_57 (by decide) ?_
        refine lv_istore_n (lv' := [(2, .int (nI 0)), (0, .ref (h 0)), (1, .ref (h 0))]) hx hb d_S_isLike_58 rfl hl (by decide) rfl (fun ls hl => ?_)
        exact J59 _ 0 (Nat.lt_succ_self _) (by omega) _ _ _ hP hD hS (lv_sub hl [1, 2, 0] (rfl))
      · skip
        refine lv_aload_n hx hb d_S_isLike_34 rfl (lv_at hl 0 rfl) ?_
        refine va_get (D := gD G) (ci := 2) (v := .ref (h 1)) (C := "WordShapes$Shape") (T := TS) (N := 4) hx hb hg iw_S hown hK hP 0 rfl rfl 0 (by decide) (hg _ tk_41) (fun _ h9 => h9) rfl d_S_isLike_35 ?_
        refine lv_iload_n hx hb d_S_isLike_38 rfl (lv_at hl 2 rfl) ?_
        refine yn_iald hx hb hK hP 1 0 rfl rfl (j := i) (x := f i) (rfl) (by omega) (by omega) d_S_isLike_39 ?_
        refine lv_aload_n hx hb d_S_isLike_40 rfl (lv_at hl 1 rfl) ?_
        refine va_get (D := gD G) (ci := 2) (v := .ref (h 1)) (C := "WordShapes$Shape") (T := TS) (N := 4) hx hb hg iw_S hown hK hP 0 rfl rfl 0 (by decide) (hg _ tk_41) (fun _ h9 => h9) rfl d_S_isLike_41 ?_
        refine lv_iload_n hx hb d_S_isLike_44 rfl (lv_at hl 2 rfl) ?_
        refine yn_iald hx hb hK hP 1 0 rfl rfl (j := i) (x := f i) (rfl) (by omega) (by omega) d_S_isLike_45 ?_
        refine lv_icmp_eq (tgt := 51) hx hb d_S_isLike_46 (by decide) (fun c46 => ?_) (fun c46 => ?_)
        · skip
          refine lv_iinc (v := nI (i + 1)) (lv' := [(2, .int (nI (i + 1))), (0, .ref (h 0)), (1, .ref (h 0))]) hx hb d_S_isLike_51 hl (k := 2) rfl (y_inc _) (by decide) rfl (fun ls hl => ?_)
          refine lv_goto (tgt := 26) hx hb d_S_isLike_54 (by decide) ?_
          exact ih9 (i + 1) (by omega) (by omega) _ _ _ hP hD hS (lv_sub hl [1, 2, 0] (rfl))
        · skip
          exact absurd rfl c46
  refine lv_aload_n hx hb d_S_isLike_0 rfl (lv_at hl 0 rfl) ?_
  refine va_get (D := gD G) (ci := 2) (v := .int (nI k)) (C := "WordShapes$Shape") (T := TS) (N := 4) hx hb hg iw_S hown hK hP 0 rfl rfl 2 (by decide) (hg _ tk_43) (fun _ h9 => h9) rfl d_S_isLike_1 ?_
  refine lv_aload_n hx hb d_S_isLike_4 rfl (lv_at hl 1 rfl) ?_
  refine va_get (D := gD G) (ci := 2) (v := .int (nI k)) (C := "WordShapes$Shape") (T := TS) (N := 4) hx hb hg iw_S hown hK hP 0 rfl rfl 2 (by decide) (hg _ tk_43) (fun _ h9 => h9) rfl d_S_isLike_5 ?_
  refine yn_icmp_ne (a := k) (b := k) (tgt := 22) hx hb d_S_isLike_8 (by decide) (by omega) (by omega) (fun c8 => ?_) (fun c8 => ?_)
  · skip
    exact absurd rfl c8
  · skip
    refine lv_aload_n hx hb d_S_isLike_11 rfl (lv_at hl 0 rfl) ?_
    refine va_get (D := gD G) (ci := 2) (v := .int (nI c)) (C := "WordShapes$Shape") (T := TS) (N := 4) hx hb hg iw_S hown hK hP 0 rfl rfl 3 (by decide) (hg _ tk_47) (fun _ h9 => h9) rfl d_S_isLike_12 ?_
    refine lv_aload_n hx hb d_S_isLike_15 rfl (lv_at hl 1 rfl) ?_
    refine va_get (D := gD G) (ci := 2) (v := .int (nI c)) (C := "WordShapes$Shape") (T := TS) (N := 4) hx hb hg iw_S hown hK hP 0 rfl rfl 3 (by decide) (hg _ tk_47) (fun _ h9 => h9) rfl d_S_isLike_16 ?_
    refine yn_icmp_eq (a := c) (b := c) (tgt := 24) hx hb d_S_isLike_19 (by decide) (by omega) (by omega) (fun c19 => ?_) (fun c19 => ?_)
    · skip
      refine lv_iconst (v := nI 0) hx hb d_S_isLike_24 (by decide) ?_
      refine lv_istore_n (lv' := [(2, .int (nI 0)), (0, .ref (h 0)), (1, .ref (h 0))]) hx hb d_S_isLike_25 rfl hl (by decide) rfl (fun ls hl => ?_)
      exact J26 _ 0 (Nat.lt_succ_self _) (by omega) _ _ _ hP hD hS (lv_sub hl [1, 2, 0] (rfl))
    · skip
      exact absurd rfl c19
set_option maxHeartbeats 4000000 in
set_option maxRecDepth 100000 in
theorem c_W_same {l : Launch} (hlt : l.stackTraces = false) (G : gl) (h : Nat → Nat) (np : Nat) (no : Nat) (dg : Nat) (tl : Nat) (sk : Nat → Nat) (sc : Nat → Nat) (sf : Nat → Nat → Int32) (so : Nat → Nat → Int32) (n : Nat) (p : Nat) (fk : Nat) (fp : Nat) (t : Nat → Nat) (k : Nat) (c : Nat) (f : Nat → Int32) (o : Nat → Int32) (bt : Nat) (bk : Nat → Int32) (bn : Nat → Int32) (ln : Nat) (ks : Bool) (la : Nat) (nx : Nat) (py : Nat) (fi : Bool) (rb : Nat → Nat) (de : Nat → Int32) (wt : Nat) (wk : Nat → Int32) (wn : Nat → Int32) (s : Int32) (r : Int32) (hsk : ∀ j, sk j ≤ np) (hsc : ∀ j, 2 * sc j ≤ no) (hnp : np ≤ 4096) (hno : no ≤ 8192) : YC l G y_W_same k_W_same 5 (Option.some FieldType.boolean) 7 111 [.ref (h 0), .int s, .int r] (wW G h np no dg tl sk sc sf so n p fk fp t k c f o bt bk bn ln ks la nx py fi rb de wt wk wn) (fun v w => ∃ j q, j < 4 ∧ s = nI j ∧ q < 4 ∧ r = nI q ∧ v = some (.int (bz (decide (sk j = sk q ∧ sc j = sc q ∧ (∀ z, z < sk j → sf j z = sf q z) ∧ ∀ z, z < 2 * sc j → so j z = so q z)))) ∧ w = wW G h np no dg tl sk sc sf so n p fk fp t k c f o bt bk bn ln ks la nx py fi rb de wt wk wn) (fun E w => ((s < 0 ∨ nI 4 ≤ s) ∨ (r < 0 ∨ nI 4 ≤ r)) ∧ E = "java/lang/IndexOutOfBoundsException" ∧ w = wW G h np no dg tl sk sc sf so n p fk fp t k c f o bt bk bn ln ks la nx py fi rb de wt wk wn) := by
  refine yc_of (by decide) ?_
  intro pg ev sx mm bl mt cd A C0 hP hD
  obtain ⟨hx, hb, hrt, hml, hown, hg, hlocks, hxt, hE, hK, hA, hmn⟩ := C0
  have hS : va_S A sx.heap sx.heap [] := va_S.rf
  have hl := lv_entry ([.ref (h 0), .int s, .int r]) (n := 5) (Nat.le_of_ble_eq_true rfl)
  rw [lg_entry_eq]
  generalize (lg_sl ([.ref (h 0), .int s, .int r]) ++ List.replicate (5 - (lg_sl ([.ref (h 0), .int s, .int r])).length) Slot.unset).toArray = ls at hl ⊢
  have hl : lv_has ls 5 [(0, .ref (h 0)), (1, .int s), (2, .int r)] := hl
  obtain ⟨H, hH⟩ : ∃ H, H = sx.heap := ⟨_, rfl⟩
  rw [← hH] at hP
  have hS : va_S A sx.heap H [] := by rw [hH]; exact hS
  suffices h9 : W pg l ev (yR 7 111) sx mm _ bl mt cd H [] 0 0 (yMQ bl G A _ _ _ _ sx) (F0 mm 0 ls []) by rw [hH] at h9; exact h9
  obtain ⟨locs, hlo⟩ : ∃ locs : List Loc, locs = [] := ⟨_, rfl⟩
  rw [← hlo] at hS ⊢
  refine lv_aload_n hx hb d_W_same_0 rfl (lv_at hl 0 rfl) ?_
  refine lv_iload_n hx hb d_W_same_1 rfl (lv_at hl 1 rfl) ?_
  refine y_callW (y_runV (As := [.int s]) (rest := []) hx hb hml hown (c_W_shapeIn hlt G h np no dg tl sk sc sf so n p fk fp t k c f o bt bk bn ln ks la nx py fi rb de wt wk wn s ) (gV (n := 1) hg tk_295 tk_297 (gt_s 2 (by decide +kernel) (by decide +kernel)) tk_1 tk_298 (by decide +kernel) ⟨Nat.le_of_ble_eq_true rfl, Nat.le_of_ble_eq_true rfl⟩) (va_recv hK hP (ci := 4) (q0 := 0) rfl rfl) (y_preW hE hK hP hD hS hA) rfl rfl hl.1 rfl (lv_room (Nat.le_of_ble_eq_true rfl)) d_W_same_2 ⟨Nat.le_of_ble_eq_true rfl, Nat.le_of_ble_eq_true rfl⟩) hD hS hA (fun E9 w9 qx cx H locs hp hlw hP hD hS hq1 hq2 hq3 => ?_) (fun v9 w9 H locs hp hlw hP hD hS => ?_)
  · skip
    obtain ⟨hc_2, rfl, rfl⟩ := hp
    have hP : va_P (gD G) vwC (wW G h np no dg tl sk sc sf so n p fk fp t k c f o bt bk bn ln ks la nx py fi rb de wt wk wn) H := hP
    have hD : va_D A (wW G h np no dg tl sk sc sf so n p fk fp t k c f o bt bk bn ln ks la nx py fi rb de wt wk wn) := hD
    exact y_out (ws := wW G h np no dg tl sk sc sf so n p fk fp t k c f o bt bk bn ln ks la nx py fi rb de wt wk wn) hxt hlocks hq1 hq2 hq3 (⟨Or.inl hc_2, rfl, rfl⟩) rfl hK hP hD hS
  obtain ⟨j_2, hj_2, rfl, rfl, rfl⟩ := hp
  have hP : va_P (gD G) vwC (wW G h np no dg tl sk sc sf so n p fk fp t k c f o bt bk bn ln ks la nx py fi rb de wt wk wn) H := hP
  have hD : va_D A (wW G h np no dg tl sk sc sf so n p fk fp t k c f o bt bk bn ln ks la nx py fi rb de wt wk wn) := hD
  refine W.eq (g2 := F0 mm 5 ls [.ref (h (2 + 3 * j_2))]) rfl ?_
  rcases (show j_2 = 0 ∨ j_2 = 1 ∨ j_2 = 2 ∨ j_2 = 3 by omega) with rfl | rfl | rfl | rfl
  · skip
    refine lv_astore_n (lv' := [(3, .ref (h 2)), (0, .ref (h 0)), (1, .int (nI 0)), (2, .int r)]) hx hb d_W_same_5 rfl hl (by decide) rfl (fun ls hl => ?_)
    refine lv_aload_n hx hb d_W_same_6 rfl (lv_at hl 1 rfl) ?_
    refine lv_iload_n hx hb d_W_same_7 rfl (lv_at hl 3 rfl) ?_
    refine y_callW (y_runV (As := [.int r]) (rest := []) hx hb hml hown (c_W_shapeIn hlt G h np no dg tl sk sc sf so n p fk fp t k c f o bt bk bn ln ks la nx py fi rb de wt wk wn r ) (gV (n := 1) hg tk_295 tk_297 (gt_s 2 (by decide +kernel) (by decide +kernel)) tk_1 tk_298 (by decide +kernel) ⟨Nat.le_of_ble_eq_true rfl, Nat.le_of_ble_eq_true rfl⟩) (va_recv hK hP (ci := 4) (q0 := 0) rfl rfl) (y_preW hE hK hP hD hS hA) rfl rfl hl.1 rfl (lv_room (Nat.le_of_ble_eq_true rfl)) d_W_same_8 ⟨Nat.le_of_ble_eq_true rfl, Nat.le_of_ble_eq_true rfl⟩) hD hS hA (fun E9 w9 qx cx H locs hp hlw hP hD hS hq1 hq2 hq3 => ?_) (fun v9 w9 H locs hp hlw hP hD hS => ?_)
    · skip
      obtain ⟨hc_8, rfl, rfl⟩ := hp
      have hP : va_P (gD G) vwC (wW G h np no dg tl sk sc sf so n p fk fp t k c f o bt bk bn ln ks la nx py fi rb de wt wk wn) H := hP
      have hD : va_D A (wW G h np no dg tl sk sc sf so n p fk fp t k c f o bt bk bn ln ks la nx py fi rb de wt wk wn) := hD
      exact y_out (ws := wW G h np no dg tl sk sc sf so n p fk fp t k c f o bt bk bn ln ks la nx py fi rb de wt wk wn) hxt hlocks hq1 hq2 hq3 (⟨Or.inr hc_8, rfl, rfl⟩) rfl hK hP hD hS
    obtain ⟨j_8, hj_8, rfl, rfl, rfl⟩ := hp
    have hP : va_P (gD G) vwC (wW G h np no dg tl sk sc sf so n p fk fp t k c f o bt bk bn ln ks la nx py fi rb de wt wk wn) H := hP
    have hD : va_D A (wW G h np no dg tl sk sc sf so n p fk fp t k c f o bt bk bn ln ks la nx py fi rb de wt wk wn) := hD
    refine W.eq (g2 := F0 mm 11 ls [.ref (h (2 + 3 * j_8))]) rfl ?_
    rcases (show j_8 = 0 ∨ j_8 = 1 ∨ j_8 = 2 ∨ j_8 = 3 by omega) with rfl | rfl | rfl | rfl
    · skip
      refine lv_astore (lv' := [(4, .ref (h 2)), (3, .ref (h 2)), (0, .ref (h 0)), (1, .int (nI 0)), (2, .int (nI 0))]) hx hb d_W_same_11 hl (by decide) rfl (fun ls hl => ?_)
      have a1 := hsk 0
      have a2 := hsc 0
      have a3 := hsk 0
      have a4 := hsc 0
      refine lv_aload_n hx hb d_W_same_13 rfl (lv_at hl 1 rfl) ?_
      refine lv_aload hx hb d_W_same_14 (lv_at hl 0 rfl) ?_
      refine y_call (y_runV (As := [.ref (h 2)]) (rest := []) hx hb hml hown (c_S_isLikeA l G (fun i => h (i + 2)) np no (sk 0) (sc 0) (sf 0) (so 0)  (by omega) (by omega) (by omega) (by omega)) (gV (n := 1) hg tk_636 tk_637 tk_638 tk_3 tk_639 (by decide +kernel) ⟨Nat.le_of_ble_eq_true rfl, Nat.le_of_ble_eq_true rfl⟩) (va_recv hK hP (ci := 2) (q0 := 2) rfl rfl) (y_pre hE hK hP hD hS hA [2, 3, 4] rfl rfl) rfl rfl hl.1 rfl (lv_room (Nat.le_of_ble_eq_true rfl)) d_W_same_16 ⟨Nat.le_of_ble_eq_true rfl, Nat.le_of_ble_eq_true rfl⟩) hP hD hS hA [2, 3, 4] rfl (fun _ _ _ _ _ _ hp => False.elim hp) (fun v9 w9 H locs hp hlw hP hD hS => ?_)
      obtain ⟨rfl, rfl⟩ := hp
      have hP : va_P (gD G) vwC (wW G h np no dg tl sk sc sf so n p fk fp t k c f o bt bk bn ln ks la nx py fi rb de wt wk wn) H := hP
      have hD : va_D A (wW G h np no dg tl sk sc sf so n p fk fp t k c f o bt bk bn ln ks la nx py fi rb de wt wk wn) := hD
      refine W.eq (g2 := F0 mm 19 ls [.int (bz true)]) rfl ?_
      exact yr_z (ws := wW G h np no dg tl sk sc sf so n p fk fp t k c f o bt bk bn ln ks la nx py fi rb de wt wk wn) hx hb hrt (bz_nar _) hlocks (⟨_, _, by decide, rfl, by decide, rfl, by first | rfl | exact congrArg (fun b => some (Value.int (bz b))) (decide_eq_true (⟨rfl, rfl, fun _ _ => rfl, fun _ _ => rfl⟩)).symm, rfl⟩) rfl hK hP hD hS d_W_same_19
    · skip
      refine lv_astore (lv' := [(4, .ref (h 5)), (3, .ref (h 2)), (0, .ref (h 0)), (1, .int (nI 0)), (2, .int (nI 1))]) hx hb d_W_same_11 hl (by decide) rfl (fun ls hl => ?_)
      have a1 := hsk 0
      have a2 := hsc 0
      have a3 := hsk 1
      have a4 := hsc 1
      refine lv_aload_n hx hb d_W_same_13 rfl (lv_at hl 1 rfl) ?_
      refine lv_aload hx hb d_W_same_14 (lv_at hl 0 rfl) ?_
      refine y_call (y_runV (As := [.ref (h 5)]) (rest := []) hx hb hml hown (c_S_isLike l G (fun i => h (i + 2)) (fun i => h (i + 5)) np no (sk 0) (sc 0) (sf 0) (so 0) (sk 1) (sc 1) (sf 1) (so 1)  (by omega) (by omega) (by omega) (by omega) (by omega) (by omega)) (gV (n := 1) hg tk_636 tk_637 tk_638 tk_3 tk_639 (by decide +kernel) ⟨Nat.le_of_ble_eq_true rfl, Nat.le_of_ble_eq_true rfl⟩) (va_recv hK hP (ci := 2) (q0 := 2) rfl rfl) (y_pre hE hK hP hD hS hA [2, 3, 4, 5, 6, 7] rfl rfl) rfl rfl hl.1 rfl (lv_room (Nat.le_of_ble_eq_true rfl)) d_W_same_16 ⟨Nat.le_of_ble_eq_true rfl, Nat.le_of_ble_eq_true rfl⟩) hP hD hS hA [2, 3, 4, 5, 6, 7] rfl (fun _ _ _ _ _ _ hp => False.elim hp) (fun v9 w9 H locs hp hlw hP hD hS => ?_)
      obtain ⟨rfl, rfl⟩ := hp
      have hP : va_P (gD G) vwC (wW G h np no dg tl sk sc sf so n p fk fp t k c f o bt bk bn ln ks la nx py fi rb de wt wk wn) H := hP
      have hD : va_D A (wW G h np no dg tl sk sc sf so n p fk fp t k c f o bt bk bn ln ks la nx py fi rb de wt wk wn) := hD
      refine W.eq (g2 := F0 mm 19 ls [.int (bz (decide ((sk 0) = (sk 1) ∧ (sc 0) = (sc 1) ∧ (∀ j, j < (sk 0) → (sf 0) j = (sf 1) j) ∧ ∀ j, j < 2 * (sc 0) → (so 0) j = (so 1) j)))]) rfl ?_
      exact yr_z (ws := wW G h np no dg tl sk sc sf so n p fk fp t k c f o bt bk bn ln ks la nx py fi rb de wt wk wn) hx hb hrt (bz_nar _) hlocks (⟨_, _, by decide, rfl, by decide, rfl, by first | rfl | exact congrArg (fun b => some (Value.int (bz b))) (decide_eq_true (⟨rfl, rfl, fun _ _ => rfl, fun _ _ => rfl⟩)).symm, rfl⟩) rfl hK hP hD hS d_W_same_19
    · skip
      refine lv_astore (lv' := [(4, .ref (h 8)), (3, .ref (h 2)), (0, .ref (h 0)), (1, .int (nI 0)), (2, .int (nI 2))]) hx hb d_W_same_11 hl (by decide) rfl (fun ls hl => ?_)
      have a1 := hsk 0
      have a2 := hsc 0
      have a3 := hsk 2
      have a4 := hsc 2
      refine lv_aload_n hx hb d_W_same_13 rfl (lv_at hl 1 rfl) ?_
      refine lv_aload hx hb d_W_same_14 (lv_at hl 0 rfl) ?_
      refine y_call (y_runV (As := [.ref (h 8)]) (rest := []) hx hb hml hown (c_S_isLike l G (fun i => h (i + 2)) (fun i => h (i + 8)) np no (sk 0) (sc 0) (sf 0) (so 0) (sk 2) (sc 2) (sf 2) (so 2)  (by omega) (by omega) (by omega) (by omega) (by omega) (by omega)) (gV (n := 1) hg tk_636 tk_637 tk_638 tk_3 tk_639 (by decide +kernel) ⟨Nat.le_of_ble_eq_true rfl, Nat.le_of_ble_eq_true rfl⟩) (va_recv hK hP (ci := 2) (q0 := 2) rfl rfl) (y_pre hE hK hP hD hS hA [2, 3, 4, 8, 9, 10] rfl rfl) rfl rfl hl.1 rfl (lv_room (Nat.le_of_ble_eq_true rfl)) d_W_same_16 ⟨Nat.le_of_ble_eq_true rfl, Nat.le_of_ble_eq_true rfl⟩) hP hD hS hA [2, 3, 4, 8, 9, 10] rfl (fun _ _ _ _ _ _ hp => False.elim hp) (fun v9 w9 H locs hp hlw hP hD hS => ?_)
      obtain ⟨rfl, rfl⟩ := hp
      have hP : va_P (gD G) vwC (wW G h np no dg tl sk sc sf so n p fk fp t k c f o bt bk bn ln ks la nx py fi rb de wt wk wn) H := hP
      have hD : va_D A (wW G h np no dg tl sk sc sf so n p fk fp t k c f o bt bk bn ln ks la nx py fi rb de wt wk wn) := hD
      refine W.eq (g2 := F0 mm 19 ls [.int (bz (decide ((sk 0) = (sk 2) ∧ (sc 0) = (sc 2) ∧ (∀ j, j < (sk 0) → (sf 0) j = (sf 2) j) ∧ ∀ j, j < 2 * (sc 0) → (so 0) j = (so 2) j)))]) rfl ?_
      exact yr_z (ws := wW G h np no dg tl sk sc sf so n p fk fp t k c f o bt bk bn ln ks la nx py fi rb de wt wk wn) hx hb hrt (bz_nar _) hlocks (⟨_, _, by decide, rfl, by decide, rfl, by first | rfl | exact congrArg (fun b => some (Value.int (bz b))) (decide_eq_true (⟨rfl, rfl, fun _ _ => rfl, fun _ _ => rfl⟩)).symm, rfl⟩) rfl hK hP hD hS d_W_same_19
    · skip
      refine lv_astore (lv' := [(4, .ref (h 11)), (3, .ref (h 2)), (0, .ref (h 0)), (1, .int (nI 0)), (2, .int (nI 3))]) hx hb d_W_same_11 hl (by decide) rfl (fun ls hl => ?_)
      have a1 := hsk 0
      have a2 := hsc 0
      have a3 := hsk 3
      have a4 := hsc 3
      refine lv_aload_n hx hb d_W_same_13 rfl (lv_at hl 1 rfl) ?_
      refine lv_aload hx hb d_W_same_14 (lv_at hl 0 rfl) ?_
      refine y_call (y_runV (As := [.ref (h 11)]) (rest := []) hx hb hml hown (c_S_isLike l G (fun i => h (i + 2)) (fun i => h (i + 11)) np no (sk 0) (sc 0) (sf 0) (so 0) (sk 3) (sc 3) (sf 3) (so 3)  (by omega) (by omega) (by omega) (by omega) (by omega) (by omega)) (gV (n := 1) hg tk_636 tk_637 tk_638 tk_3 tk_639 (by decide +kernel) ⟨Nat.le_of_ble_eq_true rfl, Nat.le_of_ble_eq_true rfl⟩) (va_recv hK hP (ci := 2) (q0 := 2) rfl rfl) (y_pre hE hK hP hD hS hA [2, 3, 4, 11, 12, 13] rfl rfl) rfl rfl hl.1 rfl (lv_room (Nat.le_of_ble_eq_true rfl)) d_W_same_16 ⟨Nat.le_of_ble_eq_true rfl, Nat.le_of_ble_eq_true rfl⟩) hP hD hS hA [2, 3, 4, 11, 12, 13] rfl (fun _ _ _ _ _ _ hp => False.elim hp) (fun v9 w9 H locs hp hlw hP hD hS => ?_)
      obtain ⟨rfl, rfl⟩ := hp
      have hP : va_P (gD G) vwC (wW G h np no dg tl sk sc sf so n p fk fp t k c f o bt bk bn ln ks la nx py fi rb de wt wk wn) H := hP
      have hD : va_D A (wW G h np no dg tl sk sc sf so n p fk fp t k c f o bt bk bn ln ks la nx py fi rb de wt wk wn) := hD
      refine W.eq (g2 := F0 mm 19 ls [.int (bz (decide ((sk 0) = (sk 3) ∧ (sc 0) = (sc 3) ∧ (∀ j, j < (sk 0) → (sf 0) j = (sf 3) j) ∧ ∀ j, j < 2 * (sc 0) → (so 0) j = (so 3) j)))]) rfl ?_
      exact yr_z (ws := wW G h np no dg tl sk sc sf so n p fk fp t k c f o bt bk bn ln ks la nx py fi rb de wt wk wn) hx hb hrt (bz_nar _) hlocks (⟨_, _, by decide, rfl, by decide, rfl, by first | rfl | exact congrArg (fun b => some (Value.int (bz b))) (decide_eq_true (⟨rfl, rfl, fun _ _ => rfl, fun _ _ => rfl⟩)).symm, rfl⟩) rfl hK hP hD hS d_W_same_19
  · skip
    refine lv_astore_n (lv' := [(3, .ref (h 5)), (0, .ref (h 0)), (1, .int (nI 1)), (2, .int r)]) hx hb d_W_same_5 rfl hl (by decide) rfl (fun ls hl => ?_)
    refine lv_aload_n hx hb d_W_same_6 rfl (lv_at hl 1 rfl) ?_
    refine lv_iload_n hx hb d_W_same_7 rfl (lv_at hl 3 rfl) ?_
    refine y_callW (y_runV (As := [.int r]) (rest := []) hx hb hml hown (c_W_shapeIn hlt G h np no dg tl sk sc sf so n p fk fp t k c f o bt bk bn ln ks la nx py fi rb de wt wk wn r ) (gV (n := 1) hg tk_295 tk_297 (gt_s 2 (by decide +kernel) (by decide +kernel)) tk_1 tk_298 (by decide +kernel) ⟨Nat.le_of_ble_eq_true rfl, Nat.le_of_ble_eq_true rfl⟩) (va_recv hK hP (ci := 4) (q0 := 0) rfl rfl) (y_preW hE hK hP hD hS hA) rfl rfl hl.1 rfl (lv_room (Nat.le_of_ble_eq_true rfl)) d_W_same_8 ⟨Nat.le_of_ble_eq_true rfl, Nat.le_of_ble_eq_true rfl⟩) hD hS hA (fun E9 w9 qx cx H locs hp hlw hP hD hS hq1 hq2 hq3 => ?_) (fun v9 w9 H locs hp hlw hP hD hS => ?_)
    · skip
      obtain ⟨hc_8, rfl, rfl⟩ := hp
      have hP : va_P (gD G) vwC (wW G h np no dg tl sk sc sf so n p fk fp t k c f o bt bk bn ln ks la nx py fi rb de wt wk wn) H := hP
      have hD : va_D A (wW G h np no dg tl sk sc sf so n p fk fp t k c f o bt bk bn ln ks la nx py fi rb de wt wk wn) := hD
      exact y_out (ws := wW G h np no dg tl sk sc sf so n p fk fp t k c f o bt bk bn ln ks la nx py fi rb de wt wk wn) hxt hlocks hq1 hq2 hq3 (⟨Or.inr hc_8, rfl, rfl⟩) rfl hK hP hD hS
    obtain ⟨j_8, hj_8, rfl, rfl, rfl⟩ := hp
    have hP : va_P (gD G) vwC (wW G h np no dg tl sk sc sf so n p fk fp t k c f o bt bk bn ln ks la nx py fi rb de wt wk wn) H := hP
    have hD : va_D A (wW G h np no dg tl sk sc sf so n p fk fp t k c f o bt bk bn ln ks la nx py fi rb de wt wk wn) := hD
    refine W.eq (g2 := F0 mm 11 ls [.ref (h (2 + 3 * j_8))]) rfl ?_
    rcases (show j_8 = 0 ∨ j_8 = 1 ∨ j_8 = 2 ∨ j_8 = 3 by omega) with rfl | rfl | rfl | rfl
    · skip
      refine lv_astore (lv' := [(4, .ref (h 2)), (3, .ref (h 5)), (0, .ref (h 0)), (1, .int (nI 1)), (2, .int (nI 0))]) hx hb d_W_same_11 hl (by decide) rfl (fun ls hl => ?_)
      have a1 := hsk 1
      have a2 := hsc 1
      have a3 := hsk 0
      have a4 := hsc 0
      refine lv_aload_n hx hb d_W_same_13 rfl (lv_at hl 1 rfl) ?_
      refine lv_aload hx hb d_W_same_14 (lv_at hl 0 rfl) ?_
      refine y_call (y_runV (As := [.ref (h 2)]) (rest := []) hx hb hml hown (c_S_isLike l G (fun i => h (i + 5)) (fun i => h (i + 2)) np no (sk 1) (sc 1) (sf 1) (so 1) (sk 0) (sc 0) (sf 0) (so 0)  (by omega) (by omega) (by omega) (by omega) (by omega) (by omega)) (gV (n := 1) hg tk_636 tk_637 tk_638 tk_3 tk_639 (by decide +kernel) ⟨Nat.le_of_ble_eq_true rfl, Nat.le_of_ble_eq_true rfl⟩) (va_recv hK hP (ci := 2) (q0 := 5) rfl rfl) (y_pre hE hK hP hD hS hA [5, 6, 7, 2, 3, 4] rfl rfl) rfl rfl hl.1 rfl (lv_room (Nat.le_of_ble_eq_true rfl)) d_W_same_16 ⟨Nat.le_of_ble_eq_true rfl, Nat.le_of_ble_eq_true rfl⟩) hP hD hS hA [5, 6, 7, 2, 3, 4] rfl (fun _ _ _ _ _ _ hp => False.elim hp) (fun v9 w9 H locs hp hlw hP hD hS => ?_)
      obtain ⟨rfl, rfl⟩ := hp
      have hP : va_P (gD G) vwC (wW G h np no dg tl sk sc sf so n p fk fp t k c f o bt bk bn ln ks la nx py fi rb de wt wk wn) H := hP
      have hD : va_D A (wW G h np no dg tl sk sc sf so n p fk fp t k c f o bt bk bn ln ks la nx py fi rb de wt wk wn) := hD
      refine W.eq (g2 := F0 mm 19 ls [.int (bz (decide ((sk 1) = (sk 0) ∧ (sc 1) = (sc 0) ∧ (∀ j, j < (sk 1) → (sf 1) j = (sf 0) j) ∧ ∀ j, j < 2 * (sc 1) → (so 1) j = (so 0) j)))]) rfl ?_
      exact yr_z (ws := wW G h np no dg tl sk sc sf so n p fk fp t k c f o bt bk bn ln ks la nx py fi rb de wt wk wn) hx hb hrt (bz_nar _) hlocks (⟨_, _, by decide, rfl, by decide, rfl, by first | rfl | exact congrArg (fun b => some (Value.int (bz b))) (decide_eq_true (⟨rfl, rfl, fun _ _ => rfl, fun _ _ => rfl⟩)).symm, rfl⟩) rfl hK hP hD hS d_W_same_19
    · skip
      refine lv_astore (lv' := [(4, .ref (h 5)), (3, .ref (h 5)), (0, .ref (h 0)), (1, .int (nI 1)), (2, .int (nI 1))]) hx hb d_W_same_11 hl (by decide) rfl (fun ls hl => ?_)
      have a1 := hsk 1
      have a2 := hsc 1
      have a3 := hsk 1
      have a4 := hsc 1
      refine lv_aload_n hx hb d_W_same_13 rfl (lv_at hl 1 rfl) ?_
      refine lv_aload hx hb d_W_same_14 (lv_at hl 0 rfl) ?_
      refine y_call (y_runV (As := [.ref (h 5)]) (rest := []) hx hb hml hown (c_S_isLikeA l G (fun i => h (i + 5)) np no (sk 1) (sc 1) (sf 1) (so 1)  (by omega) (by omega) (by omega) (by omega)) (gV (n := 1) hg tk_636 tk_637 tk_638 tk_3 tk_639 (by decide +kernel) ⟨Nat.le_of_ble_eq_true rfl, Nat.le_of_ble_eq_true rfl⟩) (va_recv hK hP (ci := 2) (q0 := 5) rfl rfl) (y_pre hE hK hP hD hS hA [5, 6, 7] rfl rfl) rfl rfl hl.1 rfl (lv_room (Nat.le_of_ble_eq_true rfl)) d_W_same_16 ⟨Nat.le_of_ble_eq_true rfl, Nat.le_of_ble_eq_true rfl⟩) hP hD hS hA [5, 6, 7] rfl (fun _ _ _ _ _ _ hp => False.elim hp) (fun v9 w9 H locs hp hlw hP hD hS => ?_)
      obtain ⟨rfl, rfl⟩ := hp
      have hP : va_P (gD G) vwC (wW G h np no dg tl sk sc sf so n p fk fp t k c f o bt bk bn ln ks la nx py fi rb de wt wk wn) H := hP
      have hD : va_D A (wW G h np no dg tl sk sc sf so n p fk fp t k c f o bt bk bn ln ks la nx py fi rb de wt wk wn) := hD
      refine W.eq (g2 := F0 mm 19 ls [.int (bz true)]) rfl ?_
      exact yr_z (ws := wW G h np no dg tl sk sc sf so n p fk fp t k c f o bt bk bn ln ks la nx py fi rb de wt wk wn) hx hb hrt (bz_nar _) hlocks (⟨_, _, by decide, rfl, by decide, rfl, by first | rfl | exact congrArg (fun b => some (Value.int (bz b))) (decide_eq_true (⟨rfl, rfl, fun _ _ => rfl, fun _ _ => rfl⟩)).symm, rfl⟩) rfl hK hP hD hS d_W_same_19
    · skip
      refine lv_astore (lv' := [(4, .ref (h 8)), (3, .ref (h 5)), (0, .ref (h 0)), (1, .int (nI 1)), (2, .int (nI 2))]) hx hb d_W_same_11 hl (by decide) rfl (fun ls hl => ?_)
      have a1 := hsk 1
      have a2 := hsc 1
      have a3 := hsk 2
      have a4 := hsc 2
      refine lv_aload_n hx hb d_W_same_13 rfl (lv_at hl 1 rfl) ?_
      refine lv_aload hx hb d_W_same_14 (lv_at hl 0 rfl) ?_
      refine y_call (y_runV (As := [.ref (h 8)]) (rest := []) hx hb hml hown (c_S_isLike l G (fun i => h (i + 5)) (fun i => h (i + 8)) np no (sk 1) (sc 1) (sf 1) (so 1) (sk 2) (sc 2) (sf 2) (so 2)  (by omega) (by omega) (by omega) (by omega) (by omega) (by omega)) (gV (n := 1) hg tk_636 tk_637 tk_638 tk_3 tk_639 (by decide +kernel) ⟨Nat.le_of_ble_eq_true rfl, Nat.le_of_ble_eq_true rfl⟩) (va_recv hK hP (ci := 2) (q0 := 5) rfl rfl) (y_pre hE hK hP hD hS hA [5, 6, 7, 8, 9, 10] rfl rfl) rfl rfl hl.1 rfl (lv_room (Nat.le_of_ble_eq_true rfl)) d_W_same_16 ⟨Nat.le_of_ble_eq_true rfl, Nat.le_of_ble_eq_true rfl⟩) hP hD hS hA [5, 6, 7, 8, 9, 10] rfl (fun _ _ _ _ _ _ hp => False.elim hp) (fun v9 w9 H locs hp hlw hP hD hS => ?_)
      obtain ⟨rfl, rfl⟩ := hp
      have hP : va_P (gD G) vwC (wW G h np no dg tl sk sc sf so n p fk fp t k c f o bt bk bn ln ks la nx py fi rb de wt wk wn) H := hP
      have hD : va_D A (wW G h np no dg tl sk sc sf so n p fk fp t k c f o bt bk bn ln ks la nx py fi rb de wt wk wn) := hD
      refine W.eq (g2 := F0 mm 19 ls [.int (bz (decide ((sk 1) = (sk 2) ∧ (sc 1) = (sc 2) ∧ (∀ j, j < (sk 1) → (sf 1) j = (sf 2) j) ∧ ∀ j, j < 2 * (sc 1) → (so 1) j = (so 2) j)))]) rfl ?_
      exact yr_z (ws := wW G h np no dg tl sk sc sf so n p fk fp t k c f o bt bk bn ln ks la nx py fi rb de wt wk wn) hx hb hrt (bz_nar _) hlocks (⟨_, _, by decide, rfl, by decide, rfl, by first | rfl | exact congrArg (fun b => some (Value.int (bz b))) (decide_eq_true (⟨rfl, rfl, fun _ _ => rfl, fun _ _ => rfl⟩)).symm, rfl⟩) rfl hK hP hD hS d_W_same_19
    · skip
      refine lv_astore (lv' := [(4, .ref (h 11)), (3, .ref (h 5)), (0, .ref (h 0)), (1, .int (nI 1)), (2, .int (nI 3))]) hx hb d_W_same_11 hl (by decide) rfl (fun ls hl => ?_)
      have a1 := hsk 1
      have a2 := hsc 1
      have a3 := hsk 3
      have a4 := hsc 3
      refine lv_aload_n hx hb d_W_same_13 rfl (lv_at hl 1 rfl) ?_
      refine lv_aload hx hb d_W_same_14 (lv_at hl 0 rfl) ?_
      refine y_call (y_runV (As := [.ref (h 11)]) (rest := []) hx hb hml hown (c_S_isLike l G (fun i => h (i + 5)) (fun i => h (i + 11)) np no (sk 1) (sc 1) (sf 1) (so 1) (sk 3) (sc 3) (sf 3) (so 3)  (by omega) (by omega) (by omega) (by omega) (by omega) (by omega)) (gV (n := 1) hg tk_636 tk_637 tk_638 tk_3 tk_639 (by decide +kernel) ⟨Nat.le_of_ble_eq_true rfl, Nat.le_of_ble_eq_true rfl⟩) (va_recv hK hP (ci := 2) (q0 := 5) rfl rfl) (y_pre hE hK hP hD hS hA [5, 6, 7, 11, 12, 13] rfl rfl) rfl rfl hl.1 rfl (lv_room (Nat.le_of_ble_eq_true rfl)) d_W_same_16 ⟨Nat.le_of_ble_eq_true rfl, Nat.le_of_ble_eq_true rfl⟩) hP hD hS hA [5, 6, 7, 11, 12, 13] rfl (fun _ _ _ _ _ _ hp => False.elim hp) (fun v9 w9 H locs hp hlw hP hD hS => ?_)
      obtain ⟨rfl, rfl⟩ := hp
      have hP : va_P (gD G) vwC (wW G h np no dg tl sk sc sf so n p fk fp t k c f o bt bk bn ln ks la nx py fi rb de wt wk wn) H := hP
      have hD : va_D A (wW G h np no dg tl sk sc sf so n p fk fp t k c f o bt bk bn ln ks la nx py fi rb de wt wk wn) := hD
      refine W.eq (g2 := F0 mm 19 ls [.int (bz (decide ((sk 1) = (sk 3) ∧ (sc 1) = (sc 3) ∧ (∀ j, j < (sk 1) → (sf 1) j = (sf 3) j) ∧ ∀ j, j < 2 * (sc 1) → (so 1) j = (so 3) j)))]) rfl ?_
      exact yr_z (ws := wW G h np no dg tl sk sc sf so n p fk fp t k c f o bt bk bn ln ks la nx py fi rb de wt wk wn) hx hb hrt (bz_nar _) hlocks (⟨_, _, by decide, rfl, by decide, rfl, by first | rfl | exact congrArg (fun b => some (Value.int (bz b))) (decide_eq_true (⟨rfl, rfl, fun _ _ => rfl, fun _ _ => rfl⟩)).symm, rfl⟩) rfl hK hP hD hS d_W_same_19
  · skip
    refine lv_astore_n (lv' := [(3, .ref (h 8)), (0, .ref (h 0)), (1, .int (nI 2)), (2, .int r)]) hx hb d_W_same_5 rfl hl (by decide) rfl (fun ls hl => ?_)
    refine lv_aload_n hx hb d_W_same_6 rfl (lv_at hl 1 rfl) ?_
    refine lv_iload_n hx hb d_W_same_7 rfl (lv_at hl 3 rfl) ?_
    refine y_callW (y_runV (As := [.int r]) (rest := []) hx hb hml hown (c_W_shapeIn hlt G h np no dg tl sk sc sf so n p fk fp t k c f o bt bk bn ln ks la nx py fi rb de wt wk wn r ) (gV (n := 1) hg tk_295 tk_297 (gt_s 2 (by decide +kernel) (by decide +kernel)) tk_1 tk_298 (by decide +kernel) ⟨Nat.le_of_ble_eq_true rfl, Nat.le_of_ble_eq_true rfl⟩) (va_recv hK hP (ci := 4) (q0 := 0) rfl rfl) (y_preW hE hK hP hD hS hA) rfl rfl hl.1 rfl (lv_room (Nat.le_of_ble_eq_true rfl)) d_W_same_8 ⟨Nat.le_of_ble_eq_true rfl, Nat.le_of_ble_eq_true rfl⟩) hD hS hA (fun E9 w9 qx cx H locs hp hlw hP hD hS hq1 hq2 hq3 => ?_) (fun v9 w9 H locs hp hlw hP hD hS => ?_)
    · skip
      obtain ⟨hc_8, rfl, rfl⟩ := hp
      have hP : va_P (gD G) vwC (wW G h np no dg tl sk sc sf so n p fk fp t k c f o bt bk bn ln ks la nx py fi rb de wt wk wn) H := hP
      have hD : va_D A (wW G h np no dg tl sk sc sf so n p fk fp t k c f o bt bk bn ln ks la nx py fi rb de wt wk wn) := hD
      exact y_out (ws := wW G h np no dg tl sk sc sf so n p fk fp t k c f o bt bk bn ln ks la nx py fi rb de wt wk wn) hxt hlocks hq1 hq2 hq3 (⟨Or.inr hc_8, rfl, rfl⟩) rfl hK hP hD hS
    obtain ⟨j_8, hj_8, rfl, rfl, rfl⟩ := hp
    have hP : va_P (gD G) vwC (wW G h np no dg tl sk sc sf so n p fk fp t k c f o bt bk bn ln ks la nx py fi rb de wt wk wn) H := hP
    have hD : va_D A (wW G h np no dg tl sk sc sf so n p fk fp t k c f o bt bk bn ln ks la nx py fi rb de wt wk wn) := hD
    refine W.eq (g2 := F0 mm 11 ls [.ref (h (2 + 3 * j_8))]) rfl ?_
    rcases (show j_8 = 0 ∨ j_8 = 1 ∨ j_8 = 2 ∨ j_8 = 3 by omega) with rfl | rfl | rfl | rfl
    · skip
      refine lv_astore (lv' := [(4, .ref (h 2)), (3, .ref (h 8)), (0, .ref (h 0)), (1, .int (nI 2)), (2, .int (nI 0))]) hx hb d_W_same_11 hl (by decide) rfl (fun ls hl => ?_)
      have a1 := hsk 2
      have a2 := hsc 2
      have a3 := hsk 0
      have a4 := hsc 0
      refine lv_aload_n hx hb d_W_same_13 rfl (lv_at hl 1 rfl) ?_
      refine lv_aload hx hb d_W_same_14 (lv_at hl 0 rfl) ?_
      refine y_call (y_runV (As := [.ref (h 2)]) (rest := []) hx hb hml hown (c_S_isLike l G (fun i => h (i + 8)) (fun i => h (i + 2)) np no (sk 2) (sc 2) (sf 2) (so 2) (sk 0) (sc 0) (sf 0) (so 0)  (by omega) (by omega) (by omega) (by omega) (by omega) (by omega)) (gV (n := 1) hg tk_636 tk_637 tk_638 tk_3 tk_639 (by decide +kernel) ⟨Nat.le_of_ble_eq_true rfl, Nat.le_of_ble_eq_true rfl⟩) (va_recv hK hP (ci := 2) (q0 := 8) rfl rfl) (y_pre hE hK hP hD hS hA [8, 9, 10, 2, 3, 4] rfl rfl) rfl rfl hl.1 rfl (lv_room (Nat.le_of_ble_eq_true rfl)) d_W_same_16 ⟨Nat.le_of_ble_eq_true rfl, Nat.le_of_ble_eq_true rfl⟩) hP hD hS hA [8, 9, 10, 2, 3, 4] rfl (fun _ _ _ _ _ _ hp => False.elim hp) (fun v9 w9 H locs hp hlw hP hD hS => ?_)
      obtain ⟨rfl, rfl⟩ := hp
      have hP : va_P (gD G) vwC (wW G h np no dg tl sk sc sf so n p fk fp t k c f o bt bk bn ln ks la nx py fi rb de wt wk wn) H := hP
      have hD : va_D A (wW G h np no dg tl sk sc sf so n p fk fp t k c f o bt bk bn ln ks la nx py fi rb de wt wk wn) := hD
      refine W.eq (g2 := F0 mm 19 ls [.int (bz (decide ((sk 2) = (sk 0) ∧ (sc 2) = (sc 0) ∧ (∀ j, j < (sk 2) → (sf 2) j = (sf 0) j) ∧ ∀ j, j < 2 * (sc 2) → (so 2) j = (so 0) j)))]) rfl ?_
      exact yr_z (ws := wW G h np no dg tl sk sc sf so n p fk fp t k c f o bt bk bn ln ks la nx py fi rb de wt wk wn) hx hb hrt (bz_nar _) hlocks (⟨_, _, by decide, rfl, by decide, rfl, by first | rfl | exact congrArg (fun b => some (Value.int (bz b))) (decide_eq_true (⟨rfl, rfl, fun _ _ => rfl, fun _ _ => rfl⟩)).symm, rfl⟩) rfl hK hP hD hS d_W_same_19
    · skip
      refine lv_astore (lv' := [(4, .ref (h 5)), (3, .ref (h 8)), (0, .ref (h 0)), (1, .int (nI 2)), (2, .int (nI 1))]) hx hb d_W_same_11 hl (by decide) rfl (fun ls hl => ?_)
      have a1 := hsk 2
      have a2 := hsc 2
      have a3 := hsk 1
      have a4 := hsc 1
      refine lv_aload_n hx hb d_W_same_13 rfl (lv_at hl 1 rfl) ?_
      refine lv_aload hx hb d_W_same_14 (lv_at hl 0 rfl) ?_
      refine y_call (y_runV (As := [.ref (h 5)]) (rest := []) hx hb hml hown (c_S_isLike l G (fun i => h (i + 8)) (fun i => h (i + 5)) np no (sk 2) (sc 2) (sf 2) (so 2) (sk 1) (sc 1) (sf 1) (so 1)  (by omega) (by omega) (by omega) (by omega) (by omega) (by omega)) (gV (n := 1) hg tk_636 tk_637 tk_638 tk_3 tk_639 (by decide +kernel) ⟨Nat.le_of_ble_eq_true rfl, Nat.le_of_ble_eq_true rfl⟩) (va_recv hK hP (ci := 2) (q0 := 8) rfl rfl) (y_pre hE hK hP hD hS hA [8, 9, 10, 5, 6, 7] rfl rfl) rfl rfl hl.1 rfl (lv_room (Nat.le_of_ble_eq_true rfl)) d_W_same_16 ⟨Nat.le_of_ble_eq_true rfl, Nat.le_of_ble_eq_true rfl⟩) hP hD hS hA [8, 9, 10, 5, 6, 7] rfl (fun _ _ _ _ _ _ hp => False.elim hp) (fun v9 w9 H locs hp hlw hP hD hS => ?_)
      obtain ⟨rfl, rfl⟩ := hp
      have hP : va_P (gD G) vwC (wW G h np no dg tl sk sc sf so n p fk fp t k c f o bt bk bn ln ks la nx py fi rb de wt wk wn) H := hP
      have hD : va_D A (wW G h np no dg tl sk sc sf so n p fk fp t k c f o bt bk bn ln ks la nx py fi rb de wt wk wn) := hD
      refine W.eq (g2 := F0 mm 19 ls [.int (bz (decide ((sk 2) = (sk 1) ∧ (sc 2) = (sc 1) ∧ (∀ j, j < (sk 2) → (sf 2) j = (sf 1) j) ∧ ∀ j, j < 2 * (sc 2) → (so 2) j = (so 1) j)))]) rfl ?_
      exact yr_z (ws := wW G h np no dg tl sk sc sf so n p fk fp t k c f o bt bk bn ln ks la nx py fi rb de wt wk wn) hx hb hrt (bz_nar _) hlocks (⟨_, _, by decide, rfl, by decide, rfl, by first | rfl | exact congrArg (fun b => some (Value.int (bz b))) (decide_eq_true (⟨rfl, rfl, fun _ _ => rfl, fun _ _ => rfl⟩)).symm, rfl⟩) rfl hK hP hD hS d_W_same_19
    · skip
      refine lv_astore (lv' := [(4, .ref (h 8)), (3, .ref (h 8)), (0, .ref (h 0)), (1, .int (nI 2)), (2, .int (nI 2))]) hx hb d_W_same_11 hl (by decide) rfl (fun ls hl => ?_)
      have a1 := hsk 2
      have a2 := hsc 2
      have a3 := hsk 2
      have a4 := hsc 2
      refine lv_aload_n hx hb d_W_same_13 rfl (lv_at hl 1 rfl) ?_
      refine lv_aload hx hb d_W_same_14 (lv_at hl 0 rfl) ?_
      refine y_call (y_runV (As := [.ref (h 8)]) (rest := []) hx hb hml hown (c_S_isLikeA l G (fun i => h (i + 8)) np no (sk 2) (sc 2) (sf 2) (so 2)  (by omega) (by omega) (by omega) (by omega)) (gV (n := 1) hg tk_636 tk_637 tk_638 tk_3 tk_639 (by decide +kernel) ⟨Nat.le_of_ble_eq_true rfl, Nat.le_of_ble_eq_true rfl⟩) (va_recv hK hP (ci := 2) (q0 := 8) rfl rfl) (y_pre hE hK hP hD hS hA [8, 9, 10] rfl rfl) rfl rfl hl.1 rfl (lv_room (Nat.le_of_ble_eq_true rfl)) d_W_same_16 ⟨Nat.le_of_ble_eq_true rfl, Nat.le_of_ble_eq_true rfl⟩) hP hD hS hA [8, 9, 10] rfl (fun _ _ _ _ _ _ hp => False.elim hp) (fun v9 w9 H locs hp hlw hP hD hS => ?_)
      obtain ⟨rfl, rfl⟩ := hp
      have hP : va_P (gD G) vwC (wW G h np no dg tl sk sc sf so n p fk fp t k c f o bt bk bn ln ks la nx py fi rb de wt wk wn) H := hP
      have hD : va_D A (wW G h np no dg tl sk sc sf so n p fk fp t k c f o bt bk bn ln ks la nx py fi rb de wt wk wn) := hD
      refine W.eq (g2 := F0 mm 19 ls [.int (bz true)]) rfl ?_
      exact yr_z (ws := wW G h np no dg tl sk sc sf so n p fk fp t k c f o bt bk bn ln ks la nx py fi rb de wt wk wn) hx hb hrt (bz_nar _) hlocks (⟨_, _, by decide, rfl, by decide, rfl, by first | rfl | exact congrArg (fun b => some (Value.int (bz b))) (decide_eq_true (⟨rfl, rfl, fun _ _ => rfl, fun _ _ => rfl⟩)).symm, rfl⟩) rfl hK hP hD hS d_W_same_19
    · skip
      refine lv_astore (lv' := [(4, .ref (h 11)), (3, .ref (h 8)), (0, .ref (h 0)), (1, .int (nI 2)), (2, .int (nI 3))]) hx hb d_W_same_11 hl (by decide) rfl (fun ls hl => ?_)
      have a1 := hsk 2
      have a2 := hsc 2
      have a3 := hsk 3
      have a4 := hsc 3
      refine lv_aload_n hx hb d_W_same_13 rfl (lv_at hl 1 rfl) ?_
      refine lv_aload hx hb d_W_same_14 (lv_at hl 0 rfl) ?_
      refine y_call (y_runV (As := [.ref (h 11)]) (rest := []) hx hb hml hown (c_S_isLike l G (fun i => h (i + 8)) (fun i => h (i + 11)) np no (sk 2) (sc 2) (sf 2) (so 2) (sk 3) (sc 3) (sf 3) (so 3)  (by omega) (by omega) (by omega) (by omega) (by omega) (by omega)) (gV (n := 1) hg tk_636 tk_637 tk_638 tk_3 tk_639 (by decide +kernel) ⟨Nat.le_of_ble_eq_true rfl, Nat.le_of_ble_eq_true rfl⟩) (va_recv hK hP (ci := 2) (q0 := 8) rfl rfl) (y_pre hE hK hP hD hS hA [8, 9, 10, 11, 12, 13] rfl rfl) rfl rfl hl.1 rfl (lv_room (Nat.le_of_ble_eq_true rfl)) d_W_same_16 ⟨Nat.le_of_ble_eq_true rfl, Nat.le_of_ble_eq_true rfl⟩) hP hD hS hA [8, 9, 10, 11, 12, 13] rfl (fun _ _ _ _ _ _ hp => False.elim hp) (fun v9 w9 H locs hp hlw hP hD hS => ?_)
      obtain ⟨rfl, rfl⟩ := hp
      have hP : va_P (gD G) vwC (wW G h np no dg tl sk sc sf so n p fk fp t k c f o bt bk bn ln ks la nx py fi rb de wt wk wn) H := hP
      have hD : va_D A (wW G h np no dg tl sk sc sf so n p fk fp t k c f o bt bk bn ln ks la nx py fi rb de wt wk wn) := hD
      refine W.eq (g2 := F0 mm 19 ls [.int (bz (decide ((sk 2) = (sk 3) ∧ (sc 2) = (sc 3) ∧ (∀ j, j < (sk 2) → (sf 2) j = (sf 3) j) ∧ ∀ j, j < 2 * (sc 2) → (so 2) j = (so 3) j)))]) rfl ?_
      exact yr_z (ws := wW G h np no dg tl sk sc sf so n p fk fp t k c f o bt bk bn ln ks la nx py fi rb de wt wk wn) hx hb hrt (bz_nar _) hlocks (⟨_, _, by decide, rfl, by decide, rfl, by first | rfl | exact congrArg (fun b => some (Value.int (bz b))) (decide_eq_true (⟨rfl, rfl, fun _ _ => rfl, fun _ _ => rfl⟩)).symm, rfl⟩) rfl hK hP hD hS d_W_same_19
  · skip
    refine lv_astore_n (lv' := [(3, .ref (h 11)), (0, .ref (h 0)), (1, .int (nI 3)), (2, .int r)]) hx hb d_W_same_5 rfl hl (by decide) rfl (fun ls hl => ?_)
    refine lv_aload_n hx hb d_W_same_6 rfl (lv_at hl 1 rfl) ?_
    refine lv_iload_n hx hb d_W_same_7 rfl (lv_at hl 3 rfl) ?_
    refine y_callW (y_runV (As := [.int r]) (rest := []) hx hb hml hown (c_W_shapeIn hlt G h np no dg tl sk sc sf so n p fk fp t k c f o bt bk bn ln ks la nx py fi rb de wt wk wn r ) (gV (n := 1) hg tk_295 tk_297 (gt_s 2 (by decide +kernel) (by decide +kernel)) tk_1 tk_298 (by decide +kernel) ⟨Nat.le_of_ble_eq_true rfl, Nat.le_of_ble_eq_true rfl⟩) (va_recv hK hP (ci := 4) (q0 := 0) rfl rfl) (y_preW hE hK hP hD hS hA) rfl rfl hl.1 rfl (lv_room (Nat.le_of_ble_eq_true rfl)) d_W_same_8 ⟨Nat.le_of_ble_eq_true rfl, Nat.le_of_ble_eq_true rfl⟩) hD hS hA (fun E9 w9 qx cx H locs hp hlw hP hD hS hq1 hq2 hq3 => ?_) (fun v9 w9 H locs hp hlw hP hD hS => ?_)
    · skip
      obtain ⟨hc_8, rfl, rfl⟩ := hp
      have hP : va_P (gD G) vwC (wW G h np no dg tl sk sc sf so n p fk fp t k c f o bt bk bn ln ks la nx py fi rb de wt wk wn) H := hP
      have hD : va_D A (wW G h np no dg tl sk sc sf so n p fk fp t k c f o bt bk bn ln ks la nx py fi rb de wt wk wn) := hD
      exact y_out (ws := wW G h np no dg tl sk sc sf so n p fk fp t k c f o bt bk bn ln ks la nx py fi rb de wt wk wn) hxt hlocks hq1 hq2 hq3 (⟨Or.inr hc_8, rfl, rfl⟩) rfl hK hP hD hS
    obtain ⟨j_8, hj_8, rfl, rfl, rfl⟩ := hp
    have hP : va_P (gD G) vwC (wW G h np no dg tl sk sc sf so n p fk fp t k c f o bt bk bn ln ks la nx py fi rb de wt wk wn) H := hP
    have hD : va_D A (wW G h np no dg tl sk sc sf so n p fk fp t k c f o bt bk bn ln ks la nx py fi rb de wt wk wn) := hD
    refine W.eq (g2 := F0 mm 11 ls [.ref (h (2 + 3 * j_8))]) rfl ?_
    rcases (show j_8 = 0 ∨ j_8 = 1 ∨ j_8 = 2 ∨ j_8 = 3 by omega) with rfl | rfl | rfl | rfl
    · skip
      refine lv_astore (lv' := [(4, .ref (h 2)), (3, .ref (h 11)), (0, .ref (h 0)), (1, .int (nI 3)), (2, .int (nI 0))]) hx hb d_W_same_11 hl (by decide) rfl (fun ls hl => ?_)
      have a1 := hsk 3
      have a2 := hsc 3
      have a3 := hsk 0
      have a4 := hsc 0
      refine lv_aload_n hx hb d_W_same_13 rfl (lv_at hl 1 rfl) ?_
      refine lv_aload hx hb d_W_same_14 (lv_at hl 0 rfl) ?_
      refine y_call (y_runV (As := [.ref (h 2)]) (rest := []) hx hb hml hown (c_S_isLike l G (fun i => h (i + 11)) (fun i => h (i + 2)) np no (sk 3) (sc 3) (sf 3) (so 3) (sk 0) (sc 0) (sf 0) (so 0)  (by omega) (by omega) (by omega) (by omega) (by omega) (by omega)) (gV (n := 1) hg tk_636 tk_637 tk_638 tk_3 tk_639 (by decide +kernel) ⟨Nat.le_of_ble_eq_true rfl, Nat.le_of_ble_eq_true rfl⟩) (va_recv hK hP (ci := 2) (q0 := 11) rfl rfl) (y_pre hE hK hP hD hS hA [11, 12, 13, 2, 3, 4] rfl rfl) rfl rfl hl.1 rfl (lv_room (Nat.le_of_ble_eq_true rfl)) d_W_same_16 ⟨Nat.le_of_ble_eq_true rfl, Nat.le_of_ble_eq_true rfl⟩) hP hD hS hA [11, 12, 13, 2, 3, 4] rfl (fun _ _ _ _ _ _ hp => False.elim hp) (fun v9 w9 H locs hp hlw hP hD hS => ?_)
      obtain ⟨rfl, rfl⟩ := hp
      have hP : va_P (gD G) vwC (wW G h np no dg tl sk sc sf so n p fk fp t k c f o bt bk bn ln ks la nx py fi rb de wt wk wn) H := hP
      have hD : va_D A (wW G h np no dg tl sk sc sf so n p fk fp t k c f o bt bk bn ln ks la nx py fi rb de wt wk wn) := hD
      refine W.eq (g2 := F0 mm 19 ls [.int (bz (decide ((sk 3) = (sk 0) ∧ (sc 3) = (sc 0) ∧ (∀ j, j < (sk 3) → (sf 3) j = (sf 0) j) ∧ ∀ j, j < 2 * (sc 3) → (so 3) j = (so 0) j)))]) rfl ?_
      exact yr_z (ws := wW G h np no dg tl sk sc sf so n p fk fp t k c f o bt bk bn ln ks la nx py fi rb de wt wk wn) hx hb hrt (bz_nar _) hlocks (⟨_, _, by decide, rfl, by decide, rfl, by first | rfl | exact congrArg (fun b => some (Value.int (bz b))) (decide_eq_true (⟨rfl, rfl, fun _ _ => rfl, fun _ _ => rfl⟩)).symm, rfl⟩) rfl hK hP hD hS d_W_same_19
    · skip
      refine lv_astore (lv' := [(4, .ref (h 5)), (3, .ref (h 11)), (0, .ref (h 0)), (1, .int (nI 3)), (2, .int (nI 1))]) hx hb d_W_same_11 hl (by decide) rfl (fun ls hl => ?_)
      have a1 := hsk 3
      have a2 := hsc 3
      have a3 := hsk 1
      have a4 := hsc 1
      refine lv_aload_n hx hb d_W_same_13 rfl (lv_at hl 1 rfl) ?_
      refine lv_aload hx hb d_W_same_14 (lv_at hl 0 rfl) ?_
      refine y_call (y_runV (As := [.ref (h 5)]) (rest := []) hx hb hml hown (c_S_isLike l G (fun i => h (i + 11)) (fun i => h (i + 5)) np no (sk 3) (sc 3) (sf 3) (so 3) (sk 1) (sc 1) (sf 1) (so 1)  (by omega) (by omega) (by omega) (by omega) (by omega) (by omega)) (gV (n := 1) hg tk_636 tk_637 tk_638 tk_3 tk_639 (by decide +kernel) ⟨Nat.le_of_ble_eq_true rfl, Nat.le_of_ble_eq_true rfl⟩) (va_recv hK hP (ci := 2) (q0 := 11) rfl rfl) (y_pre hE hK hP hD hS hA [11, 12, 13, 5, 6, 7] rfl rfl) rfl rfl hl.1 rfl (lv_room (Nat.le_of_ble_eq_true rfl)) d_W_same_16 ⟨Nat.le_of_ble_eq_true rfl, Nat.le_of_ble_eq_true rfl⟩) hP hD hS hA [11, 12, 13, 5, 6, 7] rfl (fun _ _ _ _ _ _ hp => False.elim hp) (fun v9 w9 H locs hp hlw hP hD hS => ?_)
      obtain ⟨rfl, rfl⟩ := hp
      have hP : va_P (gD G) vwC (wW G h np no dg tl sk sc sf so n p fk fp t k c f o bt bk bn ln ks la nx py fi rb de wt wk wn) H := hP
      have hD : va_D A (wW G h np no dg tl sk sc sf so n p fk fp t k c f o bt bk bn ln ks la nx py fi rb de wt wk wn) := hD
      refine W.eq (g2 := F0 mm 19 ls [.int (bz (decide ((sk 3) = (sk 1) ∧ (sc 3) = (sc 1) ∧ (∀ j, j < (sk 3) → (sf 3) j = (sf 1) j) ∧ ∀ j, j < 2 * (sc 3) → (so 3) j = (so 1) j)))]) rfl ?_
      exact yr_z (ws := wW G h np no dg tl sk sc sf so n p fk fp t k c f o bt bk bn ln ks la nx py fi rb de wt wk wn) hx hb hrt (bz_nar _) hlocks (⟨_, _, by decide, rfl, by decide, rfl, by first | rfl | exact congrArg (fun b => some (Value.int (bz b))) (decide_eq_true (⟨rfl, rfl, fun _ _ => rfl, fun _ _ => rfl⟩)).symm, rfl⟩) rfl hK hP hD hS d_W_same_19
    · skip
      refine lv_astore (lv' := [(4, .ref (h 8)), (3, .ref (h 11)), (0, .ref (h 0)), (1, .int (nI 3)), (2, .int (nI 2))]) hx hb d_W_same_11 hl (by decide) rfl (fun ls hl => ?_)
      have a1 := hsk 3
      have a2 := hsc 3
      have a3 := hsk 2
      have a4 := hsc 2
      refine lv_aload_n hx hb d_W_same_13 rfl (lv_at hl 1 rfl) ?_
      refine lv_aload hx hb d_W_same_14 (lv_at hl 0 rfl) ?_
      refine y_call (y_runV (As := [.ref (h 8)]) (rest := []) hx hb hml hown (c_S_isLike l G (fun i => h (i + 11)) (fun i => h (i + 8)) np no (sk 3) (sc 3) (sf 3) (so 3) (sk 2) (sc 2) (sf 2) (so 2)  (by omega) (by omega) (by omega) (by omega) (by omega) (by omega)) (gV (n := 1) hg tk_636 tk_637 tk_638 tk_3 tk_639 (by decide +kernel) ⟨Nat.le_of_ble_eq_true rfl, Nat.le_of_ble_eq_true rfl⟩) (va_recv hK hP (ci := 2) (q0 := 11) rfl rfl) (y_pre hE hK hP hD hS hA [11, 12, 13, 8, 9, 10] rfl rfl) rfl rfl hl.1 rfl (lv_room (Nat.le_of_ble_eq_true rfl)) d_W_same_16 ⟨Nat.le_of_ble_eq_true rfl, Nat.le_of_ble_eq_true rfl⟩) hP hD hS hA [11, 12, 13, 8, 9, 10] rfl (fun _ _ _ _ _ _ hp => False.elim hp) (fun v9 w9 H locs hp hlw hP hD hS => ?_)
      obtain ⟨rfl, rfl⟩ := hp
      have hP : va_P (gD G) vwC (wW G h np no dg tl sk sc sf so n p fk fp t k c f o bt bk bn ln ks la nx py fi rb de wt wk wn) H := hP
      have hD : va_D A (wW G h np no dg tl sk sc sf so n p fk fp t k c f o bt bk bn ln ks la nx py fi rb de wt wk wn) := hD
      refine W.eq (g2 := F0 mm 19 ls [.int (bz (decide ((sk 3) = (sk 2) ∧ (sc 3) = (sc 2) ∧ (∀ j, j < (sk 3) → (sf 3) j = (sf 2) j) ∧ ∀ j, j < 2 * (sc 3) → (so 3) j = (so 2) j)))]) rfl ?_
      exact yr_z (ws := wW G h np no dg tl sk sc sf so n p fk fp t k c f o bt bk bn ln ks la nx py fi rb de wt wk wn) hx hb hrt (bz_nar _) hlocks (⟨_, _, by decide, rfl, by decide, rfl, by first | rfl | exact congrArg (fun b => some (Value.int (bz b))) (decide_eq_true (⟨rfl, rfl, fun _ _ => rfl, fun _ _ => rfl⟩)).symm, rfl⟩) rfl hK hP hD hS d_W_same_19
    · skip
      refine lv_astore (lv' := [(4, .ref (h 11)), (3, .ref (h 11)), (0, .ref (h 0)), (1, .int (nI 3)), (2, .int (nI 3))]) hx hb d_W_same_11 hl (by decide) rfl (fun ls hl => ?_)
      have a1 := hsk 3
      have a2 := hsc 3
      have a3 := hsk 3
      have a4 := hsc 3
      refine lv_aload_n hx hb d_W_same_13 rfl (lv_at hl 1 rfl) ?_
      refine lv_aload hx hb d_W_same_14 (lv_at hl 0 rfl) ?_
      refine y_call (y_runV (As := [.ref (h 11)]) (rest := []) hx hb hml hown (c_S_isLikeA l G (fun i => h (i + 11)) np no (sk 3) (sc 3) (sf 3) (so 3)  (by omega) (by omega) (by omega) (by omega)) (gV (n := 1) hg tk_636 tk_637 tk_638 tk_3 tk_639 (by decide +kernel) ⟨Nat.le_of_ble_eq_true rfl, Nat.le_of_ble_eq_true rfl⟩) (va_recv hK hP (ci := 2) (q0 := 11) rfl rfl) (y_pre hE hK hP hD hS hA [11, 12, 13] rfl rfl) rfl rfl hl.1 rfl (lv_room (Nat.le_of_ble_eq_true rfl)) d_W_same_16 ⟨Nat.le_of_ble_eq_true rfl, Nat.le_of_ble_eq_true rfl⟩) hP hD hS hA [11, 12, 13] rfl (fun _ _ _ _ _ _ hp => False.elim hp) (fun v9 w9 H locs hp hlw hP hD hS => ?_)
      obtain ⟨rfl, rfl⟩ := hp
      have hP : va_P (gD G) vwC (wW G h np no dg tl sk sc sf so n p fk fp t k c f o bt bk bn ln ks la nx py fi rb de wt wk wn) H := hP
      have hD : va_D A (wW G h np no dg tl sk sc sf so n p fk fp t k c f o bt bk bn ln ks la nx py fi rb de wt wk wn) := hD
      refine W.eq (g2 := F0 mm 19 ls [.int (bz true)]) rfl ?_
      exact yr_z (ws := wW G h np no dg tl sk sc sf so n p fk fp t k c f o bt bk bn ln ks la nx py fi rb de wt wk wn) hx hb hrt (bz_nar _) hlocks (⟨_, _, by decide, rfl, by decide, rfl, by first | rfl | exact congrArg (fun b => some (Value.int (bz b))) (decide_eq_true (⟨rfl, rfl, fun _ _ => rfl, fun _ _ => rfl⟩)).symm, rfl⟩) rfl hK hP hD hS d_W_same_19
