theorem wrF_nil (ks : Bool) (by0 : Nat → Int32) : wrF ks by0 [] = by0 := by
  funext j; exact if_neg (fun z => by have := z.2.1; simp at this)
theorem wRn_54 {dg k c m : Nat} {f o : Nat → Int32} {σ τ : wSt} (h : wRn dg k f c o m σ τ) : σ.2.2.2.2.1 < 54 := by
  cases m with
  | zero => have := h.1.1; omega
  | succ m =>
    rcases h with h | h
    · have := h.1.1; omega
    · exact h.2.1.1
theorem wIt_len {dg K : Nat} {f o : Nat → Int32} {fi fi' : Bool} {ou ou' : List Nat} {nx py bt nx' py' bt' : Nat} {bk bn bk' bn' : Nat → Int32} (h : wIt dg K f o fi ou nx py bt bk bn = (ou', nx', py', fi', bt', bk', bn')) : ou'.length ≤ ou.length + 120 := by
  have h1 : (preT fi).length ≤ 2 := by cases fi <;> decide
  have h2 := wdL_len (f nx).toNatClampNeg
  have h3 := nmX_len dg (o (2 * py))
  have h4 := nmX_len dg (o (2 * py + 1))
  have h5 : ∀ x : Int32, (if x = 0 then wdL 8 else [40]).length ≤ 5 := by intro x; split <;> decide
  have h6 : ou'.length = (wIt dg K f o fi ou nx py bt bk bn).1.length := by rw [h]
  rw [h6]
  unfold wIt bdW
  split
  · have := h5 (f (nx + 1)); simp only [List.length_append, List.length_singleton]; omega
  · split
    · have := h5 (f (nx + 1)); simp only [List.length_append, List.length_singleton]; omega
    · split
      · have := h5 (f nx); simp only [List.length_append, List.length_singleton]; omega
      · unfold ptT; simp only [List.length_append, List.length_singleton]; omega
abbrev wUS (G : gl) (h : Nat → Nat) (dg ln : Nat) (ks : Bool) (la nx py : Nat) (fi : Bool) (by1 : Nat → Int32) (de : Nat → Int32) (bt : Nat) (bk bn : Nat → Int32) (u : Nat → Nat) (np no k c : Nat) (f o : Nat → Int32) : va_W := [(h 0, .inr (3, [.ref (h 1), .int (nI dg), .ref (h 2), .ref (h 3), .int (nI ln), .int (bz ks), .int (nI la), .int (nI nx), .int (nI py), .int (bz fi)])), (h 1, .inl (gc G 1, 131072, .inl by1)), (h 2, .inl (gc G 0, 12, .inl de)), (h 3, .inr (0, [.ref (h 4), .ref (h 5), .int (nI bt)])), (h 4, .inl (gc G 0, 54, .inl bk)), (h 5, .inl (gc G 0, 54, .inl bn)), (u 0, .inr (2, [.ref (u 1), .ref (u 2), .int (nI k), .int (nI c)])), (u 1, .inl (gc G 0, np, .inl f)), (u 2, .inl (gc G 0, no, .inl o))]

set_option maxHeartbeats 4000000 in
set_option maxRecDepth 100000 in
theorem c_T_lay (l : Launch) (G : gl) (h : Nat → Nat) (dg : Nat) (ln : Nat) (ks : Bool) (la : Nat) (nx : Nat) (py : Nat) (fi : Bool) (by1 : Nat → Int32) (de : Nat → Int32) (bt : Nat) (bk : Nat → Int32) (bn : Nat → Int32) (u : Nat → Nat) (np : Nat) (no : Nat) (k : Nat) (c : Nat) (f : Nat → Int32) (o : Nat → Int32) (kp : Bool) (ou9 : List Nat) (nx9 : Nat) (py9 : Nat) (fi9 : Bool) (bt9 : Nat) (bk9 : Nat → Int32) (bn9 : Nat → Int32) (hk : k ≤ np) (hnp : np ≤ 4096) (hc : 2 * c ≤ no) (hno : no ≤ 8192) (hdg : dg ≤ 3) (hR : wRn dg k f c o (2 * k + c) (([] : List Nat), 0, 0, true, 0, upd bk 0 (nI 0), upd bn 0 (nI 1)) (ou9, nx9, py9, fi9, bt9, bk9, bn9)) : YC l G y_T_lay k_T_lay 5 (Option.some FieldType.int) 7 150 [.ref (h 0), .ref (u 0), .int (bz kp)] (wUS G h dg ln ks la nx py fi by1 de bt bk bn u np no k c f o) (fun v w => ∃ de9, ou9.length ≤ 120 * 12288 ∧ v = some (.int (nI ou9.length)) ∧ w = wUS G h dg ln kp ou9.length nx9 py9 fi9 (wrF kp by1 ou9) de9 bt9 bk9 bn9 u np no k c f o) (fun _ _ => False) := by
  refine yc_of (by decide) ?_
  intro pg ev sx mm bl mt cd A C0 hP hD
  obtain ⟨hx, hb, hrt, hml, hown, hg, hlocks, hxt, hE, hK, hA, hmn⟩ := C0
  have hS : va_S A sx.heap sx.heap [] := va_S.rf
  have hl := lv_entry ([.ref (h 0), .ref (u 0), .int (bz kp)]) (n := 5) (Nat.le_of_ble_eq_true rfl)
  rw [lg_entry_eq]
  generalize (lg_sl ([.ref (h 0), .ref (u 0), .int (bz kp)]) ++ List.replicate (5 - (lg_sl ([.ref (h 0), .ref (u 0), .int (bz kp)])).length) Slot.unset).toArray = ls at hl ⊢
  have hl : lv_has ls 5 [(0, .ref (h 0)), (1, .ref (u 0)), (2, .int (bz kp))] := hl
  obtain ⟨H, hH⟩ : ∃ H, H = sx.heap := ⟨_, rfl⟩
  rw [← hH] at hP
  have hS : va_S A sx.heap H [] := by rw [hH]; exact hS
  suffices h9 : W pg l ev (yR 7 150) sx mm _ bl mt cd H [] 0 0 (yMQ bl G A _ _ _ _ sx) (F0 mm 0 ls []) by rw [hH] at h9; exact h9
  obtain ⟨locs, hlo⟩ : ∃ locs : List Loc, locs = [] := ⟨_, rfl⟩
  rw [← hlo] at hS ⊢
  have J48 : ∀ (n9 : Nat) (i : Nat) (o2 : List Nat) (n2 : Nat) (p2 : Nat) (f2 : Bool) (t2 : Nat) (k2 : Nat → Int32) (b2 : Nat → Int32) (e2 : Nat → Int32) (hm9 : 2 * k + c + 1 - i < n9) (hi : i ≤ 2 * k + c) (ho : o2.length ≤ 120 * i) (hR2 : wRn dg k f c o (2 * k + c - i) (o2, n2, p2, f2, t2, k2, b2) (ou9, nx9, py9, fi9, bt9, bk9, bn9)) (H : Heap) (locs : List Loc) (ls : Array Slot), va_P (gD G) vwC (wTS G h dg ln kp n2 p2 f2 by1 o2 e2 t2 k2 b2 u np no k c f o) H → va_D A (wTS G h dg ln kp n2 p2 f2 by1 o2 e2 t2 k2 b2 u np no k c f o) → va_S A sx.heap H locs → lv_has ls 5 [(0, .ref (h 0)), (1, .ref (u 0)), (3, .int (nI (2 * k + c))), (4, .int (nI i))] → W pg l ev (yR 7 150) sx mm ([.ref (h 0), .ref (u 0), .int (bz kp)] : List Value).toArray bl mt cd H locs 0 0 (yMQ bl G A (wUS G h dg ln ks la nx py fi by1 de bt bk bn u np no k c f o).length (fun v w => ∃ de9, ou9.length ≤ 120 * 12288 ∧ v = some (.int (nI ou9.length)) ∧ w = wUS G h dg ln kp ou9.length nx9 py9 fi9 (wrF kp by1 ou9) de9 bt9 bk9 bn9 u np no k c f o) (fun _ _ => False) ([.ref (h 0), .ref (u 0), .int (bz kp)] : List Value).toArray sx) (F0 mm 48 ls []) := by
    intro n9
    induction n9 with
    | zero => intro i o2 n2 p2 f2 t2 k2 b2 e2 hm9; exact absurd hm9 (Nat.not_lt_zero _)
    | succ n9 ih9 =>
      intro i o2 n2 p2 f2 t2 k2 b2 e2 hm9 hi ho hR2 H locs ls hP hD hS hl
      have ht2 : t2 < 54 := wRn_54 hR2
      refine lv_iload hx hb d_T_lay_48 (lv_at hl 3 rfl) ?_
      refine lv_iload_n hx hb d_T_lay_50 rfl (lv_at hl 2 rfl) ?_
      refine yn_icmp_ge (a := i) (b := 2 * k + c) (tgt := 111) hx hb d_T_lay_51 (by decide) (by omega) (by omega) (fun c51 => ?_) (fun c51 => ?_)
      · skip
        have e9 : (ou9, nx9, py9, fi9, bt9, bk9, bn9) = (o2, n2, p2, f2, t2, k2, b2) := by first | (rw [show 2 * k + c - i = 0 by omega] at hR2; exact hR2.2) | exact wRn_dn hR2 ⟨c61, by show ¬ 0 < b2 0; rw [← c61]; exact Int32.not_lt.mpr c71⟩
        simp only [Prod.mk.injEq] at e9
        obtain ⟨rfl, rfl, rfl, rfl, rfl, rfl, rfl⟩ := e9
        refine lv_aload_n hx hb d_T_lay_111 rfl (lv_at hl 0 rfl) ?_
        refine va_get (D := gD G) (ci := 3) (v := .int (nI ou9.length)) (C := "WordShapes$Writer") (T := TT) (N := 10) hx hb hg iw_T hown hK hP 0 rfl rfl 6 (by decide) (hg _ tk_130) (fun _ h9 => h9) rfl d_T_lay_112 ?_
        exact yr_i (ws := wTS G h dg ln kp nx9 py9 fi9 by1 ou9 e2 bt9 bk9 bn9 u np no k c f o) hx hb hrt hlocks (⟨_, by omega, rfl, rfl⟩) rfl hK hP hD hS d_T_lay_115
      · skip
        refine lv_aload_n hx hb d_T_lay_54 rfl (lv_at hl 0 rfl) ?_
        refine va_get (D := gD G) (ci := 3) (v := .ref (h 3)) (C := "WordShapes$Writer") (T := TT) (N := 10) hx hb hg iw_T hown hK hP 0 rfl rfl 3 (by decide) (hg _ tk_127) (fun _ h9 => h9) rfl d_T_lay_55 ?_
        refine va_getN (D := gD G) (ci := 0) (v := .int (nI t2)) (C := "WordShapes$Brackets") (T := TB) (N := 3) hx hb hg iw_B hown hK hP 3 rfl rfl 2 (by decide) (va_Nw.use rfl (nw_76 hE.1)) (fun _ h9 => h9) rfl d_T_lay_58 ?_
        refine yn_if_gt (a := t2) (tgt := 74) hx hb d_T_lay_61 (by decide) (by omega) (fun c61 => ?_) (fun c61 => ?_)
        · skip
          have hnd : ¬ wDn (o2, n2, p2, f2, t2, k2, b2) := fun y => absurd y.1 (by show ¬ t2 = 0; omega)
          obtain ⟨mm9, hm9e, ⟨h54, hG⟩, hR3⟩ := wRn_go hR2 hnd
          refine lv_aload_n hx hb d_T_lay_74 rfl (lv_at hl 0 rfl) ?_
          refine va_get (D := gD G) (ci := 3) (v := .ref (h 3)) (C := "WordShapes$Writer") (T := TT) (N := 10) hx hb hg iw_T hown hK hP 0 rfl rfl 3 (by decide) (hg _ tk_127) (fun _ h9 => h9) rfl d_T_lay_75 ?_
          refine y_call (y_runV (As := []) (rest := []) hx hb hml hown (c_B_number l G (fun i => h (i + 3)) t2 k2 b2  (by omega)) (gV (n := 0) hg tk_567 tk_341 tk_342 tk_5 tk_343 (by decide +kernel) ⟨Nat.le_of_ble_eq_true rfl, Nat.le_of_ble_eq_true rfl⟩) (va_recv hK hP (ci := 0) (q0 := 3) rfl rfl) (y_pre hE hK hP hD hS hA [3, 4, 5] rfl rfl) rfl rfl hl.1 rfl (lv_room (Nat.le_of_ble_eq_true rfl)) d_T_lay_78 ⟨Nat.le_of_ble_eq_true rfl, Nat.le_of_ble_eq_true rfl⟩) hP hD hS hA [3, 4, 5] rfl (fun _ _ _ _ _ _ hp => False.elim hp) (fun v9 w9 H locs hp hlw hP hD hS => ?_)
          obtain ⟨rfl, rfl⟩ := hp
          have hP : va_P (gD G) vwC (wTS G h dg ln kp n2 p2 f2 by1 o2 e2 t2 k2 b2 u np no k c f o) H := hP
          have hD : va_D A (wTS G h dg ln kp n2 p2 f2 by1 o2 e2 t2 k2 b2 u np no k c f o) := hD
          refine W.eq (g2 := F0 mm 81 ls [.int (b2 t2)]) rfl ?_
          refine lv_if_le (tgt := 92) hx hb d_T_lay_81 (by decide) (fun c81 => ?_) (fun c81 => ?_)
          · skip
            have ht0 : 0 < t2 := by rcases Nat.eq_zero_or_pos t2 with y | y; exact absurd ⟨y, by show ¬ 0 < b2 0; rw [← y]; exact Int32.not_lt.mpr c81⟩ hnd; exact y
            refine lv_aload_n hx hb d_T_lay_92 rfl (lv_at hl 0 rfl) ?_
            refine lv_bipush (v := nI 41) hx hb d_T_lay_93 (by decide) ?_
            refine y_call (y_runV (As := [.int (nI 41)]) (rest := []) hx hb hml hown (c_T_put l G h dg ln kp n2 p2 f2 by1 o2 e2 t2 k2 b2 41 (by omega)) (gV (n := 1) hg tk_572 tk_574 (gt_s 25 (by decide +kernel) (by decide +kernel)) tk_6 tk_575 (by decide +kernel) ⟨Nat.le_of_ble_eq_true rfl, Nat.le_of_ble_eq_true rfl⟩) (va_recv hK hP (ci := 3) (q0 := 0) rfl rfl) (y_pre hE hK hP hD hS hA [0, 1, 2, 3, 4, 5] rfl rfl) rfl rfl hl.1 rfl (lv_room (Nat.le_of_ble_eq_true rfl)) d_T_lay_95 ⟨Nat.le_of_ble_eq_true rfl, Nat.le_of_ble_eq_true rfl⟩) hP hD hS hA [0, 1, 2, 3, 4, 5] rfl (fun _ _ _ _ _ _ hp => False.elim hp) (fun v9 w9 H locs hp hlw hP hD hS => ?_)
            obtain ⟨rfl, rfl⟩ := hp
            have hP : va_P (gD G) vwC (wTS G h dg ln kp n2 p2 f2 by1 (o2 ++ [41]) e2 t2 k2 b2 u np no k c f o) H := hP
            have hD : va_D A (wTS G h dg ln kp n2 p2 f2 by1 (o2 ++ [41]) e2 t2 k2 b2 u np no k c f o) := hD
            refine W.eq (g2 := F0 mm 98 ls []) rfl ?_
            refine lv_aload_n hx hb d_T_lay_98 rfl (lv_at hl 0 rfl) ?_
            refine va_get (D := gD G) (ci := 3) (v := .ref (h 3)) (C := "WordShapes$Writer") (T := TT) (N := 10) hx hb hg iw_T hown hK hP 0 rfl rfl 3 (by decide) (hg _ tk_127) (fun _ h9 => h9) rfl d_T_lay_99 ?_
            refine y_call (y_runV (As := []) (rest := []) hx hb hml hown (c_B_close l G (fun i => h (i + 3)) t2 k2 b2  (by omega) (by omega)) (gV (n := 0) hg tk_611 tk_527 tk_528 tk_5 tk_529 (by decide +kernel) ⟨Nat.le_of_ble_eq_true rfl, Nat.le_of_ble_eq_true rfl⟩) (va_recv hK hP (ci := 0) (q0 := 3) rfl rfl) (y_pre hE hK hP hD hS hA [3, 4, 5] rfl rfl) rfl rfl hl.1 rfl (lv_room (Nat.le_of_ble_eq_true rfl)) d_T_lay_102 ⟨Nat.le_of_ble_eq_true rfl, Nat.le_of_ble_eq_true rfl⟩) hP hD hS hA [3, 4, 5] rfl (fun _ _ _ _ _ _ hp => False.elim hp) (fun v9 w9 H locs hp hlw hP hD hS => ?_)
            obtain ⟨rfl, rfl⟩ := hp
            have hP : va_P (gD G) vwC (wTS G h dg ln kp n2 p2 f2 by1 (o2 ++ [41]) e2 (t2 - 1) k2 b2 u np no k c f o) H := hP
            have hD : va_D A (wTS G h dg ln kp n2 p2 f2 by1 (o2 ++ [41]) e2 (t2 - 1) k2 b2 u np no k c f o) := hD
            refine W.eq (g2 := F0 mm 105 ls []) rfl ?_
            have e1 : wSp dg f o (o2, n2, p2, f2, t2, k2, b2) = (o2 ++ [41], n2, p2, f2, t2 - 1, k2, b2) := by unfold wSp; exact if_neg (Int32.not_lt.mpr c81)
            have hR4 := hR3
            rw [e1, show mm9 = 2 * k + c - (i + 1) by omega] at hR4
            refine lv_iinc (v := nI (i + 1)) (lv' := [(4, .int (nI (i + 1))), (0, .ref (h 0)), (1, .ref (u 0)), (3, .int (nI (2 * k + c)))]) hx hb d_T_lay_105 hl (k := 3) rfl (y_inc _) (by decide) rfl (fun ls hl => ?_)
            refine lv_goto (tgt := 48) hx hb d_T_lay_108 (by decide) ?_
            exact ih9 (i + 1) (o2 ++ [41]) n2 p2 f2 (t2 - 1) k2 b2 e2 (by omega) (by omega) (by first | omega | (simp only [List.length_append, List.length_singleton]; omega)) (hR4) _ _ _ hP hD hS (lv_sub hl [1, 2, 3, 0] (rfl))
          · skip
            have hpos : 0 < b2 t2 := Int32.not_le.mp c81
            obtain ⟨K, hKb, hIo⟩ := hG hpos
            have hKb : k2 t2 = nI K := hKb
            have hIo : wIo K k f c o n2 p2 t2 := hIo
            refine lv_aload_n hx hb d_T_lay_84 rfl (lv_at hl 0 rfl) ?_
            refine lv_aload_n hx hb d_T_lay_85 rfl (lv_at hl 1 rfl) ?_
            refine y_call (y_runV (As := [.ref (u 0)]) (rest := []) hx hb hml hown (c_T_layItem l G h dg ln kp n2 p2 f2 by1 o2 e2 t2 k2 b2 u np no k c f o K (by omega) (by omega) (by omega) (by omega) (by omega) (by omega) (hKb) (hIo)) (gV (n := 1) hg tk_568 tk_570 (gt_s 24 (by decide +kernel) (by decide +kernel)) tk_6 tk_571 (by decide +kernel) ⟨Nat.le_of_ble_eq_true rfl, Nat.le_of_ble_eq_true rfl⟩) (va_recv hK hP (ci := 3) (q0 := 0) rfl rfl) (y_pre hE hK hP hD hS hA [0, 1, 2, 3, 4, 5, 6, 7, 8] rfl rfl) rfl rfl hl.1 rfl (lv_room (Nat.le_of_ble_eq_true rfl)) d_T_lay_86 ⟨Nat.le_of_ble_eq_true rfl, Nat.le_of_ble_eq_true rfl⟩) hP hD hS hA [0, 1, 2, 3, 4, 5, 6, 7, 8] rfl (fun _ _ _ _ _ _ hp => False.elim hp) (fun v9 w9 H locs hp hlw hP hD hS => ?_)
            obtain ⟨ou9_86, nx9_86, py9_86, fi9_86, bt9_86, bk9_86, bn9_86, de9_86, hs_86, rfl, rfl⟩ := hp
            have hP : va_P (gD G) vwC (wTS G h dg ln kp nx9_86 py9_86 fi9_86 by1 ou9_86 de9_86 bt9_86 bk9_86 bn9_86 u np no k c f o) H := hP
            have hD : va_D A (wTS G h dg ln kp nx9_86 py9_86 fi9_86 by1 ou9_86 de9_86 bt9_86 bk9_86 bn9_86 u np no k c f o) := hD
            refine W.eq (g2 := F0 mm 89 ls []) rfl ?_
            have e1 : wSp dg f o (o2, n2, p2, f2, t2, k2, b2) = (ou9_86, nx9_86, py9_86, fi9_86, bt9_86, bk9_86, bn9_86) := by unfold wSp; rw [if_pos hpos]; show wIt dg (k2 t2).toNatClampNeg f o f2 o2 n2 p2 t2 k2 b2 = _; rw [hKb, nI_clamp (by have := hIo.1; omega)]; exact hs_86
            have hR4 := hR3
            rw [e1, show mm9 = 2 * k + c - (i + 1) by omega] at hR4
            have hln := wIt_len hs_86
            refine lv_goto (tgt := 105) hx hb d_T_lay_89 (by decide) ?_
            refine lv_iinc (v := nI (i + 1)) (lv' := [(4, .int (nI (i + 1))), (0, .ref (h 0)), (1, .ref (u 0)), (3, .int (nI (2 * k + c)))]) hx hb d_T_lay_105 hl (k := 3) rfl (y_inc _) (by decide) rfl (fun ls hl => ?_)
            refine lv_goto (tgt := 48) hx hb d_T_lay_108 (by decide) ?_
            exact ih9 (i + 1) ou9_86 nx9_86 py9_86 fi9_86 bt9_86 bk9_86 bn9_86 de9_86 (by omega) (by omega) (by first | omega | (simp only [List.length_append, List.length_singleton]; omega)) (hR4) _ _ _ hP hD hS (lv_sub hl [1, 2, 3, 0] (rfl))
        · skip
          have h54 : t2 < 54 := by omega
          refine lv_aload_n hx hb d_T_lay_64 rfl (lv_at hl 0 rfl) ?_
          refine va_get (D := gD G) (ci := 3) (v := .ref (h 3)) (C := "WordShapes$Writer") (T := TT) (N := 10) hx hb hg iw_T hown hK hP 0 rfl rfl 3 (by decide) (hg _ tk_127) (fun _ h9 => h9) rfl d_T_lay_65 ?_
          refine y_call (y_runV (As := []) (rest := []) hx hb hml hown (c_B_number l G (fun i => h (i + 3)) t2 k2 b2  (by omega)) (gV (n := 0) hg tk_567 tk_341 tk_342 tk_5 tk_343 (by decide +kernel) ⟨Nat.le_of_ble_eq_true rfl, Nat.le_of_ble_eq_true rfl⟩) (va_recv hK hP (ci := 0) (q0 := 3) rfl rfl) (y_pre hE hK hP hD hS hA [3, 4, 5] rfl rfl) rfl rfl hl.1 rfl (lv_room (Nat.le_of_ble_eq_true rfl)) d_T_lay_68 ⟨Nat.le_of_ble_eq_true rfl, Nat.le_of_ble_eq_true rfl⟩) hP hD hS hA [3, 4, 5] rfl (fun _ _ _ _ _ _ hp => False.elim hp) (fun v9 w9 H locs hp hlw hP hD hS => ?_)
          obtain ⟨rfl, rfl⟩ := hp
          have hP : va_P (gD G) vwC (wTS G h dg ln kp n2 p2 f2 by1 o2 e2 t2 k2 b2 u np no k c f o) H := hP
          have hD : va_D A (wTS G h dg ln kp n2 p2 f2 by1 o2 e2 t2 k2 b2 u np no k c f o) := hD
          refine W.eq (g2 := F0 mm 71 ls [.int (b2 t2)]) rfl ?_
          refine lv_if_le (tgt := 111) hx hb d_T_lay_71 (by decide) (fun c71 => ?_) (fun c71 => ?_)
          · skip
            have e9 : (ou9, nx9, py9, fi9, bt9, bk9, bn9) = (o2, n2, p2, f2, t2, k2, b2) := by first | (rw [show 2 * k + c - i = 0 by omega] at hR2; exact hR2.2) | exact wRn_dn hR2 ⟨c61, by show ¬ 0 < b2 0; rw [← c61]; exact Int32.not_lt.mpr c71⟩
            simp only [Prod.mk.injEq] at e9
            obtain ⟨rfl, rfl, rfl, rfl, rfl, rfl, rfl⟩ := e9
            refine lv_aload_n hx hb d_T_lay_111 rfl (lv_at hl 0 rfl) ?_
            refine va_get (D := gD G) (ci := 3) (v := .int (nI ou9.length)) (C := "WordShapes$Writer") (T := TT) (N := 10) hx hb hg iw_T hown hK hP 0 rfl rfl 6 (by decide) (hg _ tk_130) (fun _ h9 => h9) rfl d_T_lay_112 ?_
            exact yr_i (ws := wTS G h dg ln kp nx9 py9 fi9 by1 ou9 e2 bt9 bk9 bn9 u np no k c f o) hx hb hrt hlocks (⟨_, by omega, rfl, rfl⟩) rfl hK hP hD hS d_T_lay_115
          · skip
            have hnd : ¬ wDn (o2, n2, p2, f2, t2, k2, b2) := fun y => y.2 (by show 0 < b2 0; rw [← c61]; exact Int32.not_le.mp c71)
            obtain ⟨mm9, hm9e, ⟨h54, hG⟩, hR3⟩ := wRn_go hR2 hnd
            refine lv_aload_n hx hb d_T_lay_74 rfl (lv_at hl 0 rfl) ?_
            refine va_get (D := gD G) (ci := 3) (v := .ref (h 3)) (C := "WordShapes$Writer") (T := TT) (N := 10) hx hb hg iw_T hown hK hP 0 rfl rfl 3 (by decide) (hg _ tk_127) (fun _ h9 => h9) rfl d_T_lay_75 ?_
            refine y_call (y_runV (As := []) (rest := []) hx hb hml hown (c_B_number l G (fun i => h (i + 3)) t2 k2 b2  (by omega)) (gV (n := 0) hg tk_567 tk_341 tk_342 tk_5 tk_343 (by decide +kernel) ⟨Nat.le_of_ble_eq_true rfl, Nat.le_of_ble_eq_true rfl⟩) (va_recv hK hP (ci := 0) (q0 := 3) rfl rfl) (y_pre hE hK hP hD hS hA [3, 4, 5] rfl rfl) rfl rfl hl.1 rfl (lv_room (Nat.le_of_ble_eq_true rfl)) d_T_lay_78 ⟨Nat.le_of_ble_eq_true rfl, Nat.le_of_ble_eq_true rfl⟩) hP hD hS hA [3, 4, 5] rfl (fun _ _ _ _ _ _ hp => False.elim hp) (fun v9 w9 H locs hp hlw hP hD hS => ?_)
            obtain ⟨rfl, rfl⟩ := hp
            have hP : va_P (gD G) vwC (wTS G h dg ln kp n2 p2 f2 by1 o2 e2 t2 k2 b2 u np no k c f o) H := hP
            have hD : va_D A (wTS G h dg ln kp n2 p2 f2 by1 o2 e2 t2 k2 b2 u np no k c f o) := hD
            refine W.eq (g2 := F0 mm 81 ls [.int (b2 t2)]) rfl ?_
            refine lv_if_le (tgt := 92) hx hb d_T_lay_81 (by decide) (fun c81 => ?_) (fun c81 => ?_)
            · skip
              have ht0 : 0 < t2 := by rcases Nat.eq_zero_or_pos t2 with y | y; exact absurd ⟨y, by show ¬ 0 < b2 0; rw [← y]; exact Int32.not_lt.mpr c81⟩ hnd; exact y
              refine lv_aload_n hx hb d_T_lay_92 rfl (lv_at hl 0 rfl) ?_
              refine lv_bipush (v := nI 41) hx hb d_T_lay_93 (by decide) ?_
              refine y_call (y_runV (As := [.int (nI 41)]) (rest := []) hx hb hml hown (c_T_put l G h dg ln kp n2 p2 f2 by1 o2 e2 t2 k2 b2 41 (by omega)) (gV (n := 1) hg tk_572 tk_574 (gt_s 25 (by decide +kernel) (by decide +kernel)) tk_6 tk_575 (by decide +kernel) ⟨Nat.le_of_ble_eq_true rfl, Nat.le_of_ble_eq_true rfl⟩) (va_recv hK hP (ci := 3) (q0 := 0) rfl rfl) (y_pre hE hK hP hD hS hA [0, 1, 2, 3, 4, 5] rfl rfl) rfl rfl hl.1 rfl (lv_room (Nat.le_of_ble_eq_true rfl)) d_T_lay_95 ⟨Nat.le_of_ble_eq_true rfl, Nat.le_of_ble_eq_true rfl⟩) hP hD hS hA [0, 1, 2, 3, 4, 5] rfl (fun _ _ _ _ _ _ hp => False.elim hp) (fun v9 w9 H locs hp hlw hP hD hS => ?_)
              obtain ⟨rfl, rfl⟩ := hp
              have hP : va_P (gD G) vwC (wTS G h dg ln kp n2 p2 f2 by1 (o2 ++ [41]) e2 t2 k2 b2 u np no k c f o) H := hP
              have hD : va_D A (wTS G h dg ln kp n2 p2 f2 by1 (o2 ++ [41]) e2 t2 k2 b2 u np no k c f o) := hD
              refine W.eq (g2 := F0 mm 98 ls []) rfl ?_
              refine lv_aload_n hx hb d_T_lay_98 rfl (lv_at hl 0 rfl) ?_
              refine va_get (D := gD G) (ci := 3) (v := .ref (h 3)) (C := "WordShapes$Writer") (T := TT) (N := 10) hx hb hg iw_T hown hK hP 0 rfl rfl 3 (by decide) (hg _ tk_127) (fun _ h9 => h9) rfl d_T_lay_99 ?_
              refine y_call (y_runV (As := []) (rest := []) hx hb hml hown (c_B_close l G (fun i => h (i + 3)) t2 k2 b2  (by omega) (by omega)) (gV (n := 0) hg tk_611 tk_527 tk_528 tk_5 tk_529 (by decide +kernel) ⟨Nat.le_of_ble_eq_true rfl, Nat.le_of_ble_eq_true rfl⟩) (va_recv hK hP (ci := 0) (q0 := 3) rfl rfl) (y_pre hE hK hP hD hS hA [3, 4, 5] rfl rfl) rfl rfl hl.1 rfl (lv_room (Nat.le_of_ble_eq_true rfl)) d_T_lay_102 ⟨Nat.le_of_ble_eq_true rfl, Nat.le_of_ble_eq_true rfl⟩) hP hD hS hA [3, 4, 5] rfl (fun _ _ _ _ _ _ hp => False.elim hp) (fun v9 w9 H locs hp hlw hP hD hS => ?_)
              obtain ⟨rfl, rfl⟩ := hp
              have hP : va_P (gD G) vwC (wTS G h dg ln kp n2 p2 f2 by1 (o2 ++ [41]) e2 (t2 - 1) k2 b2 u np no k c f o) H := hP
              have hD : va_D A (wTS G h dg ln kp n2 p2 f2 by1 (o2 ++ [41]) e2 (t2 - 1) k2 b2 u np no k c f o) := hD
              refine W.eq (g2 := F0 mm 105 ls []) rfl ?_
              have e1 : wSp dg f o (o2, n2, p2, f2, t2, k2, b2) = (o2 ++ [41], n2, p2, f2, t2 - 1, k2, b2) := by unfold wSp; exact if_neg (Int32.not_lt.mpr c81)
              have hR4 := hR3
              rw [e1, show mm9 = 2 * k + c - (i + 1) by omega] at hR4
              refine lv_iinc (v := nI (i + 1)) (lv' := [(4, .int (nI (i + 1))), (0, .ref (h 0)), (1, .ref (u 0)), (3, .int (nI (2 * k + c)))]) hx hb d_T_lay_105 hl (k := 3) rfl (y_inc _) (by decide) rfl (fun ls hl => ?_)
              refine lv_goto (tgt := 48) hx hb d_T_lay_108 (by decide) ?_
              exact ih9 (i + 1) (o2 ++ [41]) n2 p2 f2 (t2 - 1) k2 b2 e2 (by omega) (by omega) (by first | omega | (simp only [List.length_append, List.length_singleton]; omega)) (hR4) _ _ _ hP hD hS (lv_sub hl [1, 2, 3, 0] (rfl))
            · skip
              have hpos : 0 < b2 t2 := Int32.not_le.mp c81
              obtain ⟨K, hKb, hIo⟩ := hG hpos
              have hKb : k2 t2 = nI K := hKb
              have hIo : wIo K k f c o n2 p2 t2 := hIo
              refine lv_aload_n hx hb d_T_lay_84 rfl (lv_at hl 0 rfl) ?_
              refine lv_aload_n hx hb d_T_lay_85 rfl (lv_at hl 1 rfl) ?_
              refine y_call (y_runV (As := [.ref (u 0)]) (rest := []) hx hb hml hown (c_T_layItem l G h dg ln kp n2 p2 f2 by1 o2 e2 t2 k2 b2 u np no k c f o K (by omega) (by omega) (by omega) (by omega) (by omega) (by omega) (hKb) (hIo)) (gV (n := 1) hg tk_568 tk_570 (gt_s 24 (by decide +kernel) (by decide +kernel)) tk_6 tk_571 (by decide +kernel) ⟨Nat.le_of_ble_eq_true rfl, Nat.le_of_ble_eq_true rfl⟩) (va_recv hK hP (ci := 3) (q0 := 0) rfl rfl) (y_pre hE hK hP hD hS hA [0, 1, 2, 3, 4, 5, 6, 7, 8] rfl rfl) rfl rfl hl.1 rfl (lv_room (Nat.le_of_ble_eq_true rfl)) d_T_lay_86 ⟨Nat.le_of_ble_eq_true rfl, Nat.le_of_ble_eq_true rfl⟩) hP hD hS hA [0, 1, 2, 3, 4, 5, 6, 7, 8] rfl (fun _ _ _ _ _ _ hp => False.elim hp) (fun v9 w9 H locs hp hlw hP hD hS => ?_)
              obtain ⟨ou9_86, nx9_86, py9_86, fi9_86, bt9_86, bk9_86, bn9_86, de9_86, hs_86, rfl, rfl⟩ := hp
              have hP : va_P (gD G) vwC (wTS G h dg ln kp nx9_86 py9_86 fi9_86 by1 ou9_86 de9_86 bt9_86 bk9_86 bn9_86 u np no k c f o) H := hP
              have hD : va_D A (wTS G h dg ln kp nx9_86 py9_86 fi9_86 by1 ou9_86 de9_86 bt9_86 bk9_86 bn9_86 u np no k c f o) := hD
              refine W.eq (g2 := F0 mm 89 ls []) rfl ?_
              have e1 : wSp dg f o (o2, n2, p2, f2, t2, k2, b2) = (ou9_86, nx9_86, py9_86, fi9_86, bt9_86, bk9_86, bn9_86) := by unfold wSp; rw [if_pos hpos]; show wIt dg (k2 t2).toNatClampNeg f o f2 o2 n2 p2 t2 k2 b2 = _; rw [hKb, nI_clamp (by have := hIo.1; omega)]; exact hs_86
              have hR4 := hR3
              rw [e1, show mm9 = 2 * k + c - (i + 1) by omega] at hR4
              have hln := wIt_len hs_86
              refine lv_goto (tgt := 105) hx hb d_T_lay_89 (by decide) ?_
              refine lv_iinc (v := nI (i + 1)) (lv' := [(4, .int (nI (i + 1))), (0, .ref (h 0)), (1, .ref (u 0)), (3, .int (nI (2 * k + c)))]) hx hb d_T_lay_105 hl (k := 3) rfl (y_inc _) (by decide) rfl (fun ls hl => ?_)
              refine lv_goto (tgt := 48) hx hb d_T_lay_108 (by decide) ?_
              exact ih9 (i + 1) ou9_86 nx9_86 py9_86 fi9_86 bt9_86 bk9_86 bn9_86 de9_86 (by omega) (by omega) (by first | omega | (simp only [List.length_append, List.length_singleton]; omega)) (hR4) _ _ _ hP hD hS (lv_sub hl [1, 2, 3, 0] (rfl))
  refine lv_aload_n hx hb d_T_lay_0 rfl (lv_at hl 0 rfl) ?_
  refine lv_iload_n hx hb d_T_lay_1 rfl (lv_at hl 2 rfl) ?_
  refine va_put (D := gD G) (ci := 3) (v := .int (bz kp)) (ty := .boolean) (C := "WordShapes$Writer") (T := TT) (N := 10) hx hb hg iw_T ft_T fo_T nm_T hown hK hP hD hS 0 rfl rfl 5 (by decide) (hg _ tk_129) (fun _ h9 => h9) rfl (by decide +kernel) (bz_nar kp) (bz_fit kp) (Nat.le_of_ble_eq_true rfl) d_T_lay_2 (fun H locs hP hD hS => ?_)
  have hP : va_P (gD G) vwC (wUS G h dg ln kp la nx py fi by1 de bt bk bn u np no k c f o) H := hP
  have hD : va_D A (wUS G h dg ln kp la nx py fi by1 de bt bk bn u np no k c f o) := hD
  refine lv_aload_n hx hb d_T_lay_5 rfl (lv_at hl 0 rfl) ?_
  refine lv_iconst (v := nI 0) hx hb d_T_lay_6 (by decide) ?_
  refine va_put (D := gD G) (ci := 3) (v := .int (nI 0)) (ty := .int) (C := "WordShapes$Writer") (T := TT) (N := 10) hx hb hg iw_T ft_T fo_T nm_T hown hK hP hD hS 0 rfl rfl 6 (by decide) (hg _ tk_130) (fun _ h9 => h9) rfl (by decide +kernel) (rfl) (rfl) (Nat.le_of_ble_eq_true rfl) d_T_lay_7 (fun H locs hP hD hS => ?_)
  have hP : va_P (gD G) vwC (wUS G h dg ln kp 0 nx py fi by1 de bt bk bn u np no k c f o) H := hP
  have hD : va_D A (wUS G h dg ln kp 0 nx py fi by1 de bt bk bn u np no k c f o) := hD
  refine lv_aload_n hx hb d_T_lay_10 rfl (lv_at hl 0 rfl) ?_
  refine lv_iconst (v := nI 0) hx hb d_T_lay_11 (by decide) ?_
  refine va_put (D := gD G) (ci := 3) (v := .int (nI 0)) (ty := .int) (C := "WordShapes$Writer") (T := TT) (N := 10) hx hb hg iw_T ft_T fo_T nm_T hown hK hP hD hS 0 rfl rfl 7 (by decide) (hg _ tk_131) (fun _ h9 => h9) rfl (by decide +kernel) (rfl) (rfl) (Nat.le_of_ble_eq_true rfl) d_T_lay_12 (fun H locs hP hD hS => ?_)
  have hP : va_P (gD G) vwC (wUS G h dg ln kp 0 0 py fi by1 de bt bk bn u np no k c f o) H := hP
  have hD : va_D A (wUS G h dg ln kp 0 0 py fi by1 de bt bk bn u np no k c f o) := hD
  refine lv_aload_n hx hb d_T_lay_15 rfl (lv_at hl 0 rfl) ?_
  refine lv_iconst (v := nI 0) hx hb d_T_lay_16 (by decide) ?_
  refine va_put (D := gD G) (ci := 3) (v := .int (nI 0)) (ty := .int) (C := "WordShapes$Writer") (T := TT) (N := 10) hx hb hg iw_T ft_T fo_T nm_T hown hK hP hD hS 0 rfl rfl 8 (by decide) (hg _ tk_132) (fun _ h9 => h9) rfl (by decide +kernel) (rfl) (rfl) (Nat.le_of_ble_eq_true rfl) d_T_lay_17 (fun H locs hP hD hS => ?_)
  have hP : va_P (gD G) vwC (wUS G h dg ln kp 0 0 0 fi by1 de bt bk bn u np no k c f o) H := hP
  have hD : va_D A (wUS G h dg ln kp 0 0 0 fi by1 de bt bk bn u np no k c f o) := hD
  refine lv_aload_n hx hb d_T_lay_20 rfl (lv_at hl 0 rfl) ?_
  refine lv_iconst (v := nI 1) hx hb d_T_lay_21 (by decide) ?_
  refine va_put (D := gD G) (ci := 3) (v := .int (bz true)) (ty := .boolean) (C := "WordShapes$Writer") (T := TT) (N := 10) hx hb hg iw_T ft_T fo_T nm_T hown hK hP hD hS 0 rfl rfl 9 (by decide) (hg _ tk_133) (fun _ h9 => h9) rfl (by decide +kernel) (bz_nar true) (bz_fit true) (Nat.le_of_ble_eq_true rfl) d_T_lay_22 (fun H locs hP hD hS => ?_)
  have hP : va_P (gD G) vwC (wUS G h dg ln kp 0 0 0 true by1 de bt bk bn u np no k c f o) H := hP
  have hD : va_D A (wUS G h dg ln kp 0 0 0 true by1 de bt bk bn u np no k c f o) := hD
  refine lv_aload_n hx hb d_T_lay_25 rfl (lv_at hl 0 rfl) ?_
  refine va_get (D := gD G) (ci := 3) (v := .ref (h 3)) (C := "WordShapes$Writer") (T := TT) (N := 10) hx hb hg iw_T hown hK hP 0 rfl rfl 3 (by decide) (hg _ tk_127) (fun _ h9 => h9) rfl d_T_lay_26 ?_
  refine lv_iconst (v := nI 1) hx hb d_T_lay_29 (by decide) ?_
  refine y_call (y_runV (As := [.int (nI 1)]) (rest := []) hx hb hml hown (c_B_start l G (fun i => h (i + 3)) bt bk bn (nI 1) ) (gV (n := 1) hg tk_566 tk_326 tk_327 tk_5 tk_328 (by decide +kernel) ⟨Nat.le_of_ble_eq_true rfl, Nat.le_of_ble_eq_true rfl⟩) (va_recv hK hP (ci := 0) (q0 := 3) rfl rfl) (y_pre hE hK hP hD hS hA [3, 4, 5] rfl rfl) rfl rfl hl.1 rfl (lv_room (Nat.le_of_ble_eq_true rfl)) d_T_lay_30 ⟨Nat.le_of_ble_eq_true rfl, Nat.le_of_ble_eq_true rfl⟩) hP hD hS hA [3, 4, 5] rfl (fun _ _ _ _ _ _ hp => False.elim hp) (fun v9 w9 H locs hp hlw hP hD hS => ?_)
  obtain ⟨rfl, rfl⟩ := hp
  have hP : va_P (gD G) vwC (wUS G h dg ln kp 0 0 0 true by1 de 0 (upd bk 0 (nI 0)) (upd bn 0 (nI 1)) u np no k c f o) H := hP
  have hD : va_D A (wUS G h dg ln kp 0 0 0 true by1 de 0 (upd bk 0 (nI 0)) (upd bn 0 (nI 1)) u np no k c f o) := hD
  refine W.eq (g2 := F0 mm 33 ls []) rfl ?_
  rw [← wrF_nil kp by1] at hP hD
  have hP : va_P (gD G) vwC (wTS G h dg ln kp 0 0 true by1 ([]) de 0 (upd bk 0 (nI 0)) (upd bn 0 (nI 1)) u np no k c f o) H := hP
  have hD : va_D A (wTS G h dg ln kp 0 0 true by1 ([]) de 0 (upd bk 0 (nI 0)) (upd bn 0 (nI 1)) u np no k c f o) := hD
  refine lv_iconst (v := nI 2) hx hb d_T_lay_33 (by decide) ?_
  refine lv_aload_n hx hb d_T_lay_34 rfl (lv_at hl 1 rfl) ?_
  refine va_getN (D := gD G) (ci := 2) (v := .int (nI k)) (C := "WordShapes$Shape") (T := TS) (N := 4) hx hb hg iw_S hown hK hP 6 rfl rfl 2 (by decide) (va_Nw.use rfl (nw_44 hE.1)) (fun _ h9 => h9) rfl d_T_lay_35 ?_
  refine lv_imul hx hb d_T_lay_38 ?_
  refine y_eqi (pk_mul _ _) ?_
  refine lv_aload_n hx hb d_T_lay_39 rfl (lv_at hl 1 rfl) ?_
  refine va_getN (D := gD G) (ci := 2) (v := .int (nI c)) (C := "WordShapes$Shape") (T := TS) (N := 4) hx hb hg iw_S hown hK hP 6 rfl rfl 3 (by decide) (va_Nw.use rfl (nw_48 hE.1)) (fun _ h9 => h9) rfl d_T_lay_40 ?_
  refine lv_iadd hx hb d_T_lay_43 ?_
  refine y_eqi (nI_add _ _) ?_
  refine lv_istore_n (lv' := [(3, .int (nI (2 * k + c))), (0, .ref (h 0)), (1, .ref (u 0)), (2, .int (bz kp))]) hx hb d_T_lay_44 rfl hl (by decide) rfl (fun ls hl => ?_)
  refine lv_iconst (v := nI 0) hx hb d_T_lay_45 (by decide) ?_
  refine lv_istore (lv' := [(4, .int (nI 0)), (3, .int (nI (2 * k + c))), (0, .ref (h 0)), (1, .ref (u 0)), (2, .int (bz kp))]) hx hb d_T_lay_46 hl (by decide) rfl (fun ls hl => ?_)
  exact J48 _ 0 ([]) 0 0 true 0 (upd bk 0 (nI 0)) (upd bn 0 (nI 1)) de (Nat.lt_succ_self _) (by omega) (by decide) (hR) _ _ _ hP hD hS (lv_sub hl [2, 3, 1, 0] (rfl))
