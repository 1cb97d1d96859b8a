/-! the whole object -/
abbrev wW (G : gl) (h : Nat → Nat) (np no dg tl : Nat) (sk sc : Nat → Nat) (sf so : Nat → Nat → Int32) (n p fk fp : Nat) (t : Nat → Nat) (k c : Nat) (f o : Nat → Int32) (bt : Nat) (bk bn : Nat → Int32) (ln : Nat) (ks : Bool) (la nx py : Nat) (fi : Bool) (rb : Nat → Nat) (de : Nat → Int32) (wt : Nat) (wk wn : Nat → Int32) : va_W :=
  [(h 0, .inr (4, [.ref (h 1), .ref (h 15), .ref (h 14), .ref (h 22), .int (nI tl)])), (h 1, .inl (gc G 2, 4, .inr (.inr (.inr (.inr (fun i => some (h (2 + 3 * i)))))))),
   (h 2, .inr (2, [.ref (h 3), .ref (h 4), .int (nI (sk 0)), .int (nI (sc 0))])), (h 3, .inl (gc G 0, np, .inl (sf 0))), (h 4, .inl (gc G 0, no, .inl (so 0))),
   (h 5, .inr (2, [.ref (h 6), .ref (h 7), .int (nI (sk 1)), .int (nI (sc 1))])), (h 6, .inl (gc G 0, np, .inl (sf 1))), (h 7, .inl (gc G 0, no, .inl (so 1))),
   (h 8, .inr (2, [.ref (h 9), .ref (h 10), .int (nI (sk 2)), .int (nI (sc 2))])), (h 9, .inl (gc G 0, np, .inl (sf 2))), (h 10, .inl (gc G 0, no, .inl (so 2))),
   (h 11, .inr (2, [.ref (h 12), .ref (h 13), .int (nI (sk 3)), .int (nI (sc 3))])), (h 12, .inl (gc G 0, np, .inl (sf 3))), (h 13, .inl (gc G 0, no, .inl (so 3))),
   (h 14, .inr (1, [.ref (h 15), .int (nI dg), .ref (h 16), .ref (h 19), .int (nI n), .int (nI p), .int (nI fk), .int (nI fp)])), (h 15, .inl (gc G 1, 65536, .inl (fun i => sb_b (t i)))),
   (h 16, .inr (2, [.ref (h 17), .ref (h 18), .int (nI k), .int (nI c)])), (h 17, .inl (gc G 0, np, .inl f)), (h 18, .inl (gc G 0, no, .inl o)),
   (h 19, .inr (0, [.ref (h 20), .ref (h 21), .int (nI bt)])), (h 20, .inl (gc G 0, 54, .inl bk)), (h 21, .inl (gc G 0, 54, .inl bn)),
   (h 22, .inr (3, [.ref (h 23), .int (nI dg), .ref (h 24), .ref (h 25), .int (nI ln), .int (bz ks), .int (nI la), .int (nI nx), .int (nI py), .int (bz fi)])), (h 23, .inl (gc G 1, 131072, .inl (fun i => sb_b (rb i)))), (h 24, .inl (gc G 0, 12, .inl de)),
   (h 25, .inr (0, [.ref (h 26), .ref (h 27), .int (nI wt)])), (h 26, .inl (gc G 0, 54, .inl wk)), (h 27, .inl (gc G 0, 54, .inl wn))]
/-- a byte of an int, from so many bits on -/
def byt (x : Int32) (s : Nat) : Nat := x.toBitVec.toNat / 2 ^ s % 256
def fd4 (t : Nat → Nat) (tl : Nat) (x : Int32) : Nat → Nat := va_up (va_up (va_up (va_up t tl (byt x 24)) (tl + 1) (byt x 16)) (tl + 2) (byt x 8)) (tl + 3) (byt x 0)
theorem sb_low (z : Int32) : z.toInt8.toInt32 = sb_b (z.toBitVec.toNat % 256) := by
  unfold sb_b
  have e : z.toInt8 = (nI (z.toBitVec.toNat % 256)).toInt8 := by
    apply Int8.toBitVec_inj.mp
    apply BitVec.eq_of_toNat_eq
    show (z.toBitVec.signExtend 8).toNat = ((nI (z.toBitVec.toNat % 256)).toBitVec.signExtend 8).toNat
    have h1 : ∀ w : BitVec 32, (w.signExtend 8).toNat = w.toNat % 256 := by
      intro w
      rw [BitVec.signExtend_eq_setWidth_of_le _ (by decide), BitVec.toNat_setWidth]
    rw [h1, h1, pk_tn (by omega), Nat.mod_mod]
  rw [e]
theorem byt_st (t : Nat → Nat) (tl s : Nat) (x y : Int32) (hy : ((y.toUInt32 &&& Int32.toUInt32 31).toBitVec % 32).toNat = s) : upd (fun i => sb_b (t i)) tl (vp_nar .byte ((x.toUInt32 >>> (y.toUInt32 &&& Int32.toUInt32 31)).toInt32.toInt8.toInt32)) = fun i => sb_b (va_up t tl (byt x s) i) := by
  rw [sb_low, pk_ushr x y s hy]
  have e : vp_nar .byte (sb_b (x.toBitVec.toNat / 2 ^ s % 256)) = sb_b (x.toBitVec.toNat / 2 ^ s % 256) := pk_vb _
  rw [e]
  funext i
  unfold upd va_up byt
  split <;> rfl
theorem xo_W_65_69 : XOk "WordShapes" 65 69 "java/lang/IllegalArgumentException" := ⟨by decide, tk_270, tk_12, by decide +kernel, by decide +kernel, by decide +kernel⟩
theorem xo_W_100_104 : XOk "WordShapes" 100 104 "java/lang/IndexOutOfBoundsException" := ⟨by decide, tk_299, tk_13, by decide +kernel, by decide +kernel, by decide +kernel⟩
theorem xo_W_116_120 : XOk "WordShapes" 116 120 "java/lang/UnsupportedOperationException" := ⟨by decide, tk_613, tk_18, by decide +kernel, by decide +kernel, by decide +kernel⟩
set_option maxHeartbeats 4000000 in
set_option maxRecDepth 100000 in
theorem c_W_feedFour (l : Launch) (G : gl) (h : Nat → Nat) (np : Nat) (no : Nat) (dg : Nat) (tl : Nat) (sk : Nat → Nat) (sc : Nat → Nat) (sf : Nat → Nat → Int32) (so : Nat → Nat → Int32) (n : Nat) (p : Nat) (fk : Nat) (fp : Nat) (t : Nat → Nat) (k : Nat) (c : Nat) (f : Nat → Int32) (o : Nat → Int32) (bt : Nat) (bk : Nat → Int32) (bn : Nat → Int32) (ln : Nat) (ks : Bool) (la : Nat) (nx : Nat) (py : Nat) (fi : Bool) (rb : Nat → Nat) (de : Nat → Int32) (wt : Nat) (wk : Nat → Int32) (wn : Nat → Int32) (x : Int32) (htl : tl + 4 ≤ 65536) : YC l G y_W_feedFour k_W_feedFour 3 (Option.none : Option FieldType) 0 0 [.ref (h 0), .int x] (wW G h np no dg tl sk sc sf so n p fk fp t k c f o bt bk bn ln ks la nx py fi rb de wt wk wn) (fun v w => v = none ∧ w = wW G h np no dg (tl + 4) sk sc sf so n p fk fp (fd4 t tl x) k c f o bt bk bn ln ks la nx py fi rb de wt wk wn) (fun _ _ => False) := by
  refine yc_of (by decide) ?_
  intro pg ev sx mm bl mt cd A C0 hP hD
  obtain ⟨hx, hb, hrt, hml, hown, hg, hlocks, hxt, hE, hK, hA, hmn⟩ := C0
  have hS : va_S A sx.heap sx.heap [] := va_S.rf
  have hl := lv_entry ([.ref (h 0), .int x]) (n := 3) (Nat.le_of_ble_eq_true rfl)
  rw [lg_entry_eq]
  generalize (lg_sl ([.ref (h 0), .int x]) ++ List.replicate (3 - (lg_sl ([.ref (h 0), .int x])).length) Slot.unset).toArray = ls at hl ⊢
  have hl : lv_has ls 3 [(0, .ref (h 0)), (1, .int x)] := hl
  obtain ⟨H, hH⟩ : ∃ H, H = sx.heap := ⟨_, rfl⟩
  rw [← hH] at hP
  have hS : va_S A sx.heap H [] := by rw [hH]; exact hS
  suffices h9 : W pg l ev (yR 0 0) sx mm _ bl mt cd H [] 0 0 (yMQ bl G A _ _ _ _ sx) (F0 mm 0 ls []) by rw [hH] at h9; exact h9
  obtain ⟨locs, hlo⟩ : ∃ locs : List Loc, locs = [] := ⟨_, rfl⟩
  rw [← hlo] at hS ⊢
  refine lv_bipush (v := nI 24) hx hb d_W_feedFour_0 (by decide) ?_
  refine lv_istore_n (lv' := [(2, .int (nI 24)), (0, .ref (h 0)), (1, .int x)]) hx hb d_W_feedFour_2 rfl hl (by decide) rfl (fun ls hl => ?_)
  refine lv_iload_n hx hb d_W_feedFour_3 rfl (lv_at hl 0 rfl) ?_
  refine yn_if_lt (a := 24) (tgt := 45) hx hb d_W_feedFour_4 (by decide) (by omega) (fun c4 => ?_) (fun c4 => ?_)
  · skip
    exact c4.elim
  · skip
    refine lv_aload_n hx hb d_W_feedFour_7 rfl (lv_at hl 1 rfl) ?_
    refine va_get (D := gD G) (ci := 4) (v := .int (nI tl)) (C := "WordShapes") (T := TW) (N := 5) hx hb hg iw_W hown hK hP 0 rfl rfl 4 (by decide) (hg _ tk_159) (fun _ h9 => h9) rfl d_W_feedFour_8 ?_
    refine lv_ldc (v := nI 65536) hx hb hown (hg _ tk_60) d_W_feedFour_11 ?_
    refine yn_icmp_ge (a := tl) (b := 65536) (tgt := 45) hx hb d_W_feedFour_13 (by decide) (by omega) (by omega) (fun c13 => ?_) (fun c13 => ?_)
    · skip
      exact absurd c13 (by omega)
    · skip
      refine lv_aload_n hx hb d_W_feedFour_16 rfl (lv_at hl 1 rfl) ?_
      refine va_get (D := gD G) (ci := 4) (v := .ref (h 15)) (C := "WordShapes") (T := TW) (N := 5) hx hb hg iw_W hown hK hP 0 rfl rfl 1 (by decide) (hg _ tk_156) (fun _ h9 => h9) rfl d_W_feedFour_17 ?_
      refine lv_aload_n hx hb d_W_feedFour_20 rfl (lv_at hl 1 rfl) ?_
      refine va_get (D := gD G) (ci := 4) (v := .int (nI tl)) (C := "WordShapes") (T := TW) (N := 5) hx hb hg iw_W hown hK hP 0 rfl rfl 4 (by decide) (hg _ tk_159) (fun _ h9 => h9) rfl d_W_feedFour_21 ?_
      refine lv_iload_n hx hb d_W_feedFour_24 rfl (lv_at hl 2 rfl) ?_
      refine lv_iload_n hx hb d_W_feedFour_25 rfl (lv_at hl 0 rfl) ?_
      refine lv_iushr hx hb d_W_feedFour_26 (v := (x.toUInt32 >>> ((nI 24).toUInt32 &&& Int32.toUInt32 31)).toInt32) rfl ?_
      refine lv_i2b hx hb d_W_feedFour_27 (v := ((x.toUInt32 >>> ((nI 24).toUInt32 &&& Int32.toUInt32 31)).toInt32).toInt8.toInt32) rfl ?_
      refine yn_bast hx hb hK hP hD hS 15 1 rfl rfl (j := tl) (x := ((x.toUInt32 >>> ((nI 24).toUInt32 &&& Int32.toUInt32 31)).toInt32).toInt8.toInt32) (f1 := fun i => sb_b ((va_up t tl (byt x 24)) i)) (byt_st _ _ 24 x (nI 24) (by decide)) (by omega) (by omega) d_W_feedFour_28 (fun H locs hP hD hS => ?_)
      have hP : va_P (gD G) vwC (wW G h np no dg tl sk sc sf so n p fk fp (va_up t tl (byt x 24)) k c f o bt bk bn ln ks la nx py fi rb de wt wk wn) H := hP
      have hD : va_D A (wW G h np no dg tl sk sc sf so n p fk fp (va_up t tl (byt x 24)) k c f o bt bk bn ln ks la nx py fi rb de wt wk wn) := hD
      refine lv_aload_n hx hb d_W_feedFour_29 rfl (lv_at hl 1 rfl) ?_
      refine lv_dup hx hb d_W_feedFour_30 rfl ?_
      refine va_get (D := gD G) (ci := 4) (v := .int (nI tl)) (C := "WordShapes") (T := TW) (N := 5) hx hb hg iw_W hown hK hP 0 rfl rfl 4 (by decide) (hg _ tk_159) (fun _ h9 => h9) rfl d_W_feedFour_31 ?_
      refine lv_iconst (v := nI 1) hx hb d_W_feedFour_34 (by decide) ?_
      refine lv_iadd hx hb d_W_feedFour_35 ?_
      refine y_eqi (nI_add _ _) ?_
      refine va_put (D := gD G) (ci := 4) (v := .int (nI (tl + 1))) (ty := .int) (C := "WordShapes") (T := TW) (N := 5) hx hb hg iw_W ft_W fo_W nm_W hown hK hP hD hS 0 rfl rfl 4 (by decide) (hg _ tk_159) (fun _ h9 => h9) rfl (by decide +kernel) (rfl) (rfl) (Nat.le_of_ble_eq_true rfl) d_W_feedFour_36 (fun H locs hP hD hS => ?_)
      have hP : va_P (gD G) vwC (wW G h np no dg (tl + 1) sk sc sf so n p fk fp (va_up t tl (byt x 24)) k c f o bt bk bn ln ks la nx py fi rb de wt wk wn) H := hP
      have hD : va_D A (wW G h np no dg (tl + 1) sk sc sf so n p fk fp (va_up t tl (byt x 24)) k c f o bt bk bn ln ks la nx py fi rb de wt wk wn) := hD
      refine lv_iinc (v := nI 16) (lv' := [(2, .int (nI 16)), (0, .ref (h 0)), (1, .int x)]) hx hb d_W_feedFour_39 hl (k := 0) rfl (by decide) (by decide) rfl (fun ls hl => ?_)
      refine lv_goto (tgt := 3) hx hb d_W_feedFour_42 (by decide) ?_
      refine lv_iload_n hx hb d_W_feedFour_3 rfl (lv_at hl 0 rfl) ?_
      refine yn_if_lt (a := 16) (tgt := 45) hx hb d_W_feedFour_4 (by decide) (by omega) (fun c4 => ?_) (fun c4 => ?_)
      · skip
        exact c4.elim
      · skip
        refine lv_aload_n hx hb d_W_feedFour_7 rfl (lv_at hl 1 rfl) ?_
        refine va_get (D := gD G) (ci := 4) (v := .int (nI (tl + 1))) (C := "WordShapes") (T := TW) (N := 5) hx hb hg iw_W hown hK hP 0 rfl rfl 4 (by decide) (hg _ tk_159) (fun _ h9 => h9) rfl d_W_feedFour_8 ?_
        refine lv_ldc (v := nI 65536) hx hb hown (hg _ tk_60) d_W_feedFour_11 ?_
        refine yn_icmp_ge (a := tl + 1) (b := 65536) (tgt := 45) hx hb d_W_feedFour_13 (by decide) (by omega) (by omega) (fun c13 => ?_) (fun c13 => ?_)
        · skip
          exact absurd c13 (by omega)
        · skip
          refine lv_aload_n hx hb d_W_feedFour_16 rfl (lv_at hl 1 rfl) ?_
          refine va_get (D := gD G) (ci := 4) (v := .ref (h 15)) (C := "WordShapes") (T := TW) (N := 5) hx hb hg iw_W hown hK hP 0 rfl rfl 1 (by decide) (hg _ tk_156) (fun _ h9 => h9) rfl d_W_feedFour_17 ?_
          refine lv_aload_n hx hb d_W_feedFour_20 rfl (lv_at hl 1 rfl) ?_
          refine va_get (D := gD G) (ci := 4) (v := .int (nI (tl + 1))) (C := "WordShapes") (T := TW) (N := 5) hx hb hg iw_W hown hK hP 0 rfl rfl 4 (by decide) (hg _ tk_159) (fun _ h9 => h9) rfl d_W_feedFour_21 ?_
          refine lv_iload_n hx hb d_W_feedFour_24 rfl (lv_at hl 2 rfl) ?_
          refine lv_iload_n hx hb d_W_feedFour_25 rfl (lv_at hl 0 rfl) ?_
          refine lv_iushr hx hb d_W_feedFour_26 (v := (x.toUInt32 >>> ((nI 16).toUInt32 &&& Int32.toUInt32 31)).toInt32) rfl ?_
          refine lv_i2b hx hb d_W_feedFour_27 (v := ((x.toUInt32 >>> ((nI 16).toUInt32 &&& Int32.toUInt32 31)).toInt32).toInt8.toInt32) rfl ?_
          refine yn_bast hx hb hK hP hD hS 15 1 rfl rfl (j := tl + 1) (x := ((x.toUInt32 >>> ((nI 16).toUInt32 &&& Int32.toUInt32 31)).toInt32).toInt8.toInt32) (f1 := fun i => sb_b ((va_up (va_up t tl (byt x 24)) (tl + 1) (byt x 16)) i)) (byt_st _ _ 16 x (nI 16) (by decide)) (by omega) (by omega) d_W_feedFour_28 (fun H locs hP hD hS => ?_)
          have hP : va_P (gD G) vwC (wW G h np no dg (tl + 1) sk sc sf so n p fk fp (va_up (va_up t tl (byt x 24)) (tl + 1) (byt x 16)) k c f o bt bk bn ln ks la nx py fi rb de wt wk wn) H := hP
          have hD : va_D A (wW G h np no dg (tl + 1) sk sc sf so n p fk fp (va_up (va_up t tl (byt x 24)) (tl + 1) (byt x 16)) k c f o bt bk bn ln ks la nx py fi rb de wt wk wn) := hD
          refine lv_aload_n hx hb d_W_feedFour_29 rfl (lv_at hl 1 rfl) ?_
          refine lv_dup hx hb d_W_feedFour_30 rfl ?_
          refine va_get (D := gD G) (ci := 4) (v := .int (nI (tl + 1))) (C := "WordShapes") (T := TW) (N := 5) hx hb hg iw_W hown hK hP 0 rfl rfl 4 (by decide) (hg _ tk_159) (fun _ h9 => h9) rfl d_W_feedFour_31 ?_
          refine lv_iconst (v := nI 1) hx hb d_W_feedFour_34 (by decide) ?_
          refine lv_iadd hx hb d_W_feedFour_35 ?_
          refine y_eqi (nI_add _ _) ?_
          refine va_put (D := gD G) (ci := 4) (v := .int (nI (tl + 1 + 1))) (ty := .int) (C := "WordShapes") (T := TW) (N := 5) hx hb hg iw_W ft_W fo_W nm_W hown hK hP hD hS 0 rfl rfl 4 (by decide) (hg _ tk_159) (fun _ h9 => h9) rfl (by decide +kernel) (rfl) (rfl) (Nat.le_of_ble_eq_true rfl) d_W_feedFour_36 (fun H locs hP hD hS => ?_)
          have hP : va_P (gD G) vwC (wW G h np no dg (tl + 1 + 1) sk sc sf so n p fk fp (va_up (va_up t tl (byt x 24)) (tl + 1) (byt x 16)) k c f o bt bk bn ln ks la nx py fi rb de wt wk wn) H := hP
          have hD : va_D A (wW G h np no dg (tl + 1 + 1) sk sc sf so n p fk fp (va_up (va_up t tl (byt x 24)) (tl + 1) (byt x 16)) k c f o bt bk bn ln ks la nx py fi rb de wt wk wn) := hD
          refine lv_iinc (v := nI 8) (lv' := [(2, .int (nI 8)), (0, .ref (h 0)), (1, .int x)]) hx hb d_W_feedFour_39 hl (k := 0) rfl (by decide) (by decide) rfl (fun ls hl => ?_)
          refine lv_goto (tgt := 3) hx hb d_W_feedFour_42 (by decide) ?_
          refine lv_iload_n hx hb d_W_feedFour_3 rfl (lv_at hl 0 rfl) ?_
          refine yn_if_lt (a := 8) (tgt := 45) hx hb d_W_feedFour_4 (by decide) (by omega) (fun c4 => ?_) (fun c4 => ?_)
          · skip
            exact c4.elim
          · skip
            refine lv_aload_n hx hb d_W_feedFour_7 rfl (lv_at hl 1 rfl) ?_
            refine va_get (D := gD G) (ci := 4) (v := .int (nI (tl + 1 + 1))) (C := "WordShapes") (T := TW) (N := 5) hx hb hg iw_W hown hK hP 0 rfl rfl 4 (by decide) (hg _ tk_159) (fun _ h9 => h9) rfl d_W_feedFour_8 ?_
            refine lv_ldc (v := nI 65536) hx hb hown (hg _ tk_60) d_W_feedFour_11 ?_
            refine yn_icmp_ge (a := tl + 1 + 1) (b := 65536) (tgt := 45) hx hb d_W_feedFour_13 (by decide) (by omega) (by omega) (fun c13 => ?_) (fun c13 => ?_)
            · skip
              exact absurd c13 (by omega)
            · skip
              refine lv_aload_n hx hb d_W_feedFour_16 rfl (lv_at hl 1 rfl) ?_
              refine va_get (D := gD G) (ci := 4) (v := .ref (h 15)) (C := "WordShapes") (T := TW) (N := 5) hx hb hg iw_W hown hK hP 0 rfl rfl 1 (by decide) (hg _ tk_156) (fun _ h9 => h9) rfl d_W_feedFour_17 ?_
              refine lv_aload_n hx hb d_W_feedFour_20 rfl (lv_at hl 1 rfl) ?_
              refine va_get (D := gD G) (ci := 4) (v := .int (nI (tl + 1 + 1))) (C := "WordShapes") (T := TW) (N := 5) hx hb hg iw_W hown hK hP 0 rfl rfl 4 (by decide) (hg _ tk_159) (fun _ h9 => h9) rfl d_W_feedFour_21 ?_
              refine lv_iload_n hx hb d_W_feedFour_24 rfl (lv_at hl 2 rfl) ?_
              refine lv_iload_n hx hb d_W_feedFour_25 rfl (lv_at hl 0 rfl) ?_
              refine lv_iushr hx hb d_W_feedFour_26 (v := (x.toUInt32 >>> ((nI 8).toUInt32 &&& Int32.toUInt32 31)).toInt32) rfl ?_
              refine lv_i2b hx hb d_W_feedFour_27 (v := ((x.toUInt32 >>> ((nI 8).toUInt32 &&& Int32.toUInt32 31)).toInt32).toInt8.toInt32) rfl ?_
              refine yn_bast hx hb hK hP hD hS 15 1 rfl rfl (j := tl + 1 + 1) (x := ((x.toUInt32 >>> ((nI 8).toUInt32 &&& Int32.toUInt32 31)).toInt32).toInt8.toInt32) (f1 := fun i => sb_b ((va_up (va_up (va_up t tl (byt x 24)) (tl + 1) (byt x 16)) (tl + 1 + 1) (byt x 8)) i)) (byt_st _ _ 8 x (nI 8) (by decide)) (by omega) (by omega) d_W_feedFour_28 (fun H locs hP hD hS => ?_)
              have hP : va_P (gD G) vwC (wW G h np no dg (tl + 1 + 1) sk sc sf so n p fk fp (va_up (va_up (va_up t tl (byt x 24)) (tl + 1) (byt x 16)) (tl + 1 + 1) (byt x 8)) k c f o bt bk bn ln ks la nx py fi rb de wt wk wn) H := hP
              have hD : va_D A (wW G h np no dg (tl + 1 + 1) sk sc sf so n p fk fp (va_up (va_up (va_up t tl (byt x 24)) (tl + 1) (byt x 16)) (tl + 1 + 1) (byt x 8)) k c f o bt bk bn ln ks la nx py fi rb de wt wk wn) := hD
              refine lv_aload_n hx hb d_W_feedFour_29 rfl (lv_at hl 1 rfl) ?_
              refine lv_dup hx hb d_W_feedFour_30 rfl ?_
              refine va_get (D := gD G) (ci := 4) (v := .int (nI (tl + 1 + 1))) (C := "WordShapes") (T := TW) (N := 5) hx hb hg iw_W hown hK hP 0 rfl rfl 4 (by decide) (hg _ tk_159) (fun _ h9 => h9) rfl d_W_feedFour_31 ?_
              refine lv_iconst (v := nI 1) hx hb d_W_feedFour_34 (by decide) ?_
              refine lv_iadd hx hb d_W_feedFour_35 ?_
              refine y_eqi (nI_add _ _) ?_
              refine va_put (D := gD G) (ci := 4) (v := .int (nI (tl + 1 + 1 + 1))) (ty := .int) (C := "WordShapes") (T := TW) (N := 5) hx hb hg iw_W ft_W fo_W nm_W hown hK hP hD hS 0 rfl rfl 4 (by decide) (hg _ tk_159) (fun _ h9 => h9) rfl (by decide +kernel) (rfl) (rfl) (Nat.le_of_ble_eq_true rfl) d_W_feedFour_36 (fun H locs hP hD hS => ?_)
              have hP : va_P (gD G) vwC (wW G h np no dg (tl + 1 + 1 + 1) sk sc sf so n p fk fp (va_up (va_up (va_up t tl (byt x 24)) (tl + 1) (byt x 16)) (tl + 1 + 1) (byt x 8)) k c f o bt bk bn ln ks la nx py fi rb de wt wk wn) H := hP
              have hD : va_D A (wW G h np no dg (tl + 1 + 1 + 1) sk sc sf so n p fk fp (va_up (va_up (va_up t tl (byt x 24)) (tl + 1) (byt x 16)) (tl + 1 + 1) (byt x 8)) k c f o bt bk bn ln ks la nx py fi rb de wt wk wn) := hD
              refine lv_iinc (v := nI 0) (lv' := [(2, .int (nI 0)), (0, .ref (h 0)), (1, .int x)]) hx hb d_W_feedFour_39 hl (k := 0) rfl (by decide) (by decide) rfl (fun ls hl => ?_)
              refine lv_goto (tgt := 3) hx hb d_W_feedFour_42 (by decide) ?_
              refine lv_iload_n hx hb d_W_feedFour_3 rfl (lv_at hl 0 rfl) ?_
              refine yn_if_lt (a := 0) (tgt := 45) hx hb d_W_feedFour_4 (by decide) (by omega) (fun c4 => ?_) (fun c4 => ?_)
              · skip
                exact c4.elim
              · skip
                refine lv_aload_n hx hb d_W_feedFour_7 rfl (lv_at hl 1 rfl) ?_
                refine va_get (D := gD G) (ci := 4) (v := .int (nI (tl + 1 + 1 + 1))) (C := "WordShapes") (T := TW) (N := 5) hx hb hg iw_W hown hK hP 0 rfl rfl 4 (by decide) (hg _ tk_159) (fun _ h9 => h9) rfl d_W_feedFour_8 ?_
                refine lv_ldc (v := nI 65536) hx hb hown (hg _ tk_60) d_W_feedFour_11 ?_
                refine yn_icmp_ge (a := tl + 1 + 1 + 1) (b := 65536) (tgt := 45) hx hb d_W_feedFour_13 (by decide) (by omega) (by omega) (fun c13 => ?_) (fun c13 => ?_)
                · skip
                  exact absurd c13 (by omega)
                · skip
                  refine lv_aload_n hx hb d_W_feedFour_16 rfl (lv_at hl 1 rfl) ?_
                  refine va_get (D := gD G) (ci := 4) (v := .ref (h 15)) (C := "WordShapes") (T := TW) (N := 5) hx hb hg iw_W hown hK hP 0 rfl rfl 1 (by decide) (hg _ tk_156) (fun _ h9 => h9) rfl d_W_feedFour_17 ?_
                  refine lv_aload_n hx hb d_W_feedFour_20 rfl (lv_at hl 1 rfl) ?_
                  refine va_get (D := gD G) (ci := 4) (v := .int (nI (tl + 1 + 1 + 1))) (C := "WordShapes") (T := TW) (N := 5) hx hb hg iw_W hown hK hP 0 rfl rfl 4 (by decide) (hg _ tk_159) (fun _ h9 => h9) rfl d_W_feedFour_21 ?_
                  refine lv_iload_n hx hb d_W_feedFour_24 rfl (lv_at hl 2 rfl) ?_
                  refine lv_iload_n hx hb d_W_feedFour_25 rfl (lv_at hl 0 rfl) ?_
                  refine lv_iushr hx hb d_W_feedFour_26 (v := (x.toUInt32 >>> ((nI 0).toUInt32 &&& Int32.toUInt32 31)).toInt32) rfl ?_
                  refine lv_i2b hx hb d_W_feedFour_27 (v := ((x.toUInt32 >>> ((nI 0).toUInt32 &&& Int32.toUInt32 31)).toInt32).toInt8.toInt32) rfl ?_
                  refine yn_bast hx hb hK hP hD hS 15 1 rfl rfl (j := tl + 1 + 1 + 1) (x := ((x.toUInt32 >>> ((nI 0).toUInt32 &&& Int32.toUInt32 31)).toInt32).toInt8.toInt32) (f1 := fun i => sb_b ((va_up (va_up (va_up (va_up t tl (byt x 24)) (tl + 1) (byt x 16)) (tl + 1 + 1) (byt x 8)) (tl + 1 + 1 + 1) (byt x 0)) i)) (byt_st _ _ 0 x (nI 0) (by decide)) (by omega) (by omega) d_W_feedFour_28 (fun H locs hP hD hS => ?_)
                  have hP : va_P (gD G) vwC (wW G h np no dg (tl + 1 + 1 + 1) sk sc sf so n p fk fp (va_up (va_up (va_up (va_up t tl (byt x 24)) (tl + 1) (byt x 16)) (tl + 1 + 1) (byt x 8)) (tl + 1 + 1 + 1) (byt x 0)) k c f o bt bk bn ln ks la nx py fi rb de wt wk wn) H := hP
                  have hD : va_D A (wW G h np no dg (tl + 1 + 1 + 1) sk sc sf so n p fk fp (va_up (va_up (va_up (va_up t tl (byt x 24)) (tl + 1) (byt x 16)) (tl + 1 + 1) (byt x 8)) (tl + 1 + 1 + 1) (byt x 0)) k c f o bt bk bn ln ks la nx py fi rb de wt wk wn) := hD
                  refine lv_aload_n hx hb d_W_feedFour_29 rfl (lv_at hl 1 rfl) ?_
                  refine lv_dup hx hb d_W_feedFour_30 rfl ?_
                  refine va_get (D := gD G) (ci := 4) (v := .int (nI (tl + 1 + 1 + 1))) (C := "WordShapes") (T := TW) (N := 5) hx hb hg iw_W hown hK hP 0 rfl rfl 4 (by decide) (hg _ tk_159) (fun _ h9 => h9) rfl d_W_feedFour_31 ?_
                  refine lv_iconst (v := nI 1) hx hb d_W_feedFour_34 (by decide) ?_
                  refine lv_iadd hx hb d_W_feedFour_35 ?_
                  refine y_eqi (nI_add _ _) ?_
                  refine va_put (D := gD G) (ci := 4) (v := .int (nI (tl + 1 + 1 + 1 + 1))) (ty := .int) (C := "WordShapes") (T := TW) (N := 5) hx hb hg iw_W ft_W fo_W nm_W hown hK hP hD hS 0 rfl rfl 4 (by decide) (hg _ tk_159) (fun _ h9 => h9) rfl (by decide +kernel) (rfl) (rfl) (Nat.le_of_ble_eq_true rfl) d_W_feedFour_36 (fun H locs hP hD hS => ?_)
                  have hP : va_P (gD G) vwC (wW G h np no dg (tl + 1 + 1 + 1 + 1) sk sc sf so n p fk fp (va_up (va_up (va_up (va_up t tl (byt x 24)) (tl + 1) (byt x 16)) (tl + 1 + 1) (byt x 8)) (tl + 1 + 1 + 1) (byt x 0)) k c f o bt bk bn ln ks la nx py fi rb de wt wk wn) H := hP
                  have hD : va_D A (wW G h np no dg (tl + 1 + 1 + 1 + 1) sk sc sf so n p fk fp (va_up (va_up (va_up (va_up t tl (byt x 24)) (tl + 1) (byt x 16)) (tl + 1 + 1) (byt x 8)) (tl + 1 + 1 + 1) (byt x 0)) k c f o bt bk bn ln ks la nx py fi rb de wt wk wn) := hD
                  refine lv_iinc (v := (-8)) (lv' := [(2, .int (-8)), (0, .ref (h 0)), (1, .int x)]) hx hb d_W_feedFour_39 hl (k := 0) rfl (by decide) (by decide) rfl (fun ls hl => ?_)
                  refine lv_goto (tgt := 3) hx hb d_W_feedFour_42 (by decide) ?_
                  refine lv_iload_n hx hb d_W_feedFour_3 rfl (lv_at hl 0 rfl) ?_
                  refine lv_if_lt (tgt := 45) hx hb d_W_feedFour_4 (by decide) (fun c4 => ?_) (fun c4 => ?_)
                  · skip
                    exact yr_v (ws := wW G h np no dg (tl + 1 + 1 + 1 + 1) sk sc sf so n p fk fp (va_up (va_up (va_up (va_up t tl (byt x 24)) (tl + 1) (byt x 16)) (tl + 1 + 1) (byt x 8)) (tl + 1 + 1 + 1) (byt x 0)) k c f o bt bk bn ln ks la nx py fi rb de wt wk wn) hx hb hrt hlocks (⟨rfl, rfl⟩) rfl hK hP hD hS d_W_feedFour_45
                  · skip
                    exact absurd (by decide) c4
set_option maxHeartbeats 4000000 in
set_option maxRecDepth 100000 in
theorem c_W_feed {l : Launch} (hlt : l.stackTraces = false) (G : gl) (h : Nat → Nat) (np : Nat) (no : Nat) (dg : Nat) (tl : Nat) (sk : Nat → Nat) (sc : Nat → Nat) (sf : Nat → Nat → Int32) (so : Nat → Nat → Int32) (n : Nat) (p : Nat) (fk : Nat) (fp : Nat) (t : Nat → Nat) (k : Nat) (c : Nat) (f : Nat → Int32) (o : Nat → Int32) (bt : Nat) (bk : Nat → Int32) (bn : Nat → Int32) (ln : Nat) (ks : Bool) (la : Nat) (nx : Nat) (py : Nat) (fi : Bool) (rb : Nat → Nat) (de : Nat → Int32) (wt : Nat) (wk : Nat → Int32) (wn : Nat → Int32) (a1 : Int32) (a2 : Int32) (a3 : Int32) (a4 : Int32) (a5 : Int32) (htl : tl ≤ 65536) : YC l G y_W_feed k_W_feed 6 (Option.some FieldType.int) 6 90 [.ref (h 0), .int a1, .int a2, .int a3, .int a4, .int a5] (wW G h np no dg tl sk sc sf so n p fk fp t k c f o bt bk bn ln ks la nx py fi rb de wt wk wn) (fun v w => (tl + 20 ≤ 65536) ∧ v = some (.int (nI (tl + 20))) ∧ w = wW G h np no dg (tl + 20) sk sc sf so n p fk fp (fd4 (fd4 (fd4 (fd4 (fd4 t tl a1) (tl + 4) a2) (tl + 8) a3) (tl + 12) a4) (tl + 16) a5) k c f o bt bk bn ln ks la nx py fi rb de wt wk wn) (fun E w => (¬ tl + 20 ≤ 65536) ∧ E = "java/lang/IllegalStateException" ∧ w = wW G h np no dg tl sk sc sf so n p fk fp t k c f o bt bk bn ln ks la nx py fi rb de wt wk wn) := by
  refine yc_of (by decide) ?_
  intro pg ev sx mm bl mt cd A C0 hP hD
  obtain ⟨hx, hb, hrt, hml, hown, hg, hlocks, hxt, hE, hK, hA, hmn⟩ := C0
  have hS : va_S A sx.heap sx.heap [] := va_S.rf
  have hl := lv_entry ([.ref (h 0), .int a1, .int a2, .int a3, .int a4, .int a5]) (n := 6) (Nat.le_of_ble_eq_true rfl)
  rw [lg_entry_eq]
  generalize (lg_sl ([.ref (h 0), .int a1, .int a2, .int a3, .int a4, .int a5]) ++ List.replicate (6 - (lg_sl ([.ref (h 0), .int a1, .int a2, .int a3, .int a4, .int a5])).length) Slot.unset).toArray = ls at hl ⊢
  have hl : lv_has ls 6 [(0, .ref (h 0)), (1, .int a1), (2, .int a2), (3, .int a3), (4, .int a4), (5, .int a5)] := hl
  obtain ⟨H, hH⟩ : ∃ H, H = sx.heap := ⟨_, rfl⟩
  rw [← hH] at hP
  have hS : va_S A sx.heap H [] := by rw [hH]; exact hS
  suffices h9 : W pg l ev (yR 6 90) sx mm _ bl mt cd H [] 0 0 (yMQ bl G A _ _ _ _ sx) (F0 mm 0 ls []) by rw [hH] at h9; exact h9
  obtain ⟨locs, hlo⟩ : ∃ locs : List Loc, locs = [] := ⟨_, rfl⟩
  rw [← hlo] at hS ⊢
  refine lv_aload_n hx hb d_W_feed_0 rfl (lv_at hl 0 rfl) ?_
  refine va_get (D := gD G) (ci := 4) (v := .int (nI tl)) (C := "WordShapes") (T := TW) (N := 5) hx hb hg iw_W hown hK hP 0 rfl rfl 4 (by decide) (hg _ tk_159) (fun _ h9 => h9) rfl d_W_feed_1 ?_
  refine lv_ldc (v := nI 65516) hx hb hown (hg _ tk_189) d_W_feed_4 ?_
  refine yn_icmp_le (a := tl) (b := 65516) (tgt := 19) hx hb d_W_feed_6 (by decide) (by omega) (by omega) (fun c6 => ?_) (fun c6 => ?_)
  · skip
    refine lv_aload_n hx hb d_W_feed_19 rfl (lv_at hl 0 rfl) ?_
    refine lv_iload_n hx hb d_W_feed_20 rfl (lv_at hl 1 rfl) ?_
    refine y_callW (y_runV (As := [.int a1]) (rest := []) hx hb hml hown (c_W_feedFour l G h np no dg tl sk sc sf so n p fk fp t k c f o bt bk bn ln ks la nx py fi rb de wt wk wn a1 (by omega)) (gV (n := 1) hg tk_258 tk_260 (gt_s 1 (by decide +kernel) (by decide +kernel)) tk_1 tk_261 (by decide +kernel) ⟨Nat.le_of_ble_eq_true rfl, Nat.le_of_ble_eq_true rfl⟩) (va_recv hK hP (ci := 4) (q0 := 0) rfl rfl) (y_preW hE hK hP hD hS hA) rfl rfl hl.1 rfl (lv_room (Nat.le_of_ble_eq_true rfl)) d_W_feed_21 ⟨Nat.le_of_ble_eq_true rfl, Nat.le_of_ble_eq_true rfl⟩) hD hS hA (fun _ _ _ _ _ _ hp => False.elim hp) (fun v9 w9 H locs hp hlw hP hD hS => ?_)
    obtain ⟨rfl, rfl⟩ := hp
    have hP : va_P (gD G) vwC (wW G h np no dg (tl + 4) sk sc sf so n p fk fp (fd4 t tl a1) k c f o bt bk bn ln ks la nx py fi rb de wt wk wn) H := hP
    have hD : va_D A (wW G h np no dg (tl + 4) sk sc sf so n p fk fp (fd4 t tl a1) k c f o bt bk bn ln ks la nx py fi rb de wt wk wn) := hD
    refine W.eq (g2 := F0 mm 24 ls []) rfl ?_
    refine lv_aload_n hx hb d_W_feed_24 rfl (lv_at hl 0 rfl) ?_
    refine lv_iload_n hx hb d_W_feed_25 rfl (lv_at hl 2 rfl) ?_
    refine y_callW (y_runV (As := [.int a2]) (rest := []) hx hb hml hown (c_W_feedFour l G h np no dg (tl + 4) sk sc sf so n p fk fp (fd4 t tl a1) k c f o bt bk bn ln ks la nx py fi rb de wt wk wn a2 (by omega)) (gV (n := 1) hg tk_258 tk_260 (gt_s 1 (by decide +kernel) (by decide +kernel)) tk_1 tk_261 (by decide +kernel) ⟨Nat.le_of_ble_eq_true rfl, Nat.le_of_ble_eq_true rfl⟩) (va_recv hK hP (ci := 4) (q0 := 0) rfl rfl) (y_preW hE hK hP hD hS hA) rfl rfl hl.1 rfl (lv_room (Nat.le_of_ble_eq_true rfl)) d_W_feed_26 ⟨Nat.le_of_ble_eq_true rfl, Nat.le_of_ble_eq_true rfl⟩) hD hS hA (fun _ _ _ _ _ _ hp => False.elim hp) (fun v9 w9 H locs hp hlw hP hD hS => ?_)
    obtain ⟨rfl, rfl⟩ := hp
    have hP : va_P (gD G) vwC (wW G h np no dg ((tl + 4) + 4) sk sc sf so n p fk fp (fd4 (fd4 t tl a1) (tl + 4) a2) k c f o bt bk bn ln ks la nx py fi rb de wt wk wn) H := hP
    have hD : va_D A (wW G h np no dg ((tl + 4) + 4) sk sc sf so n p fk fp (fd4 (fd4 t tl a1) (tl + 4) a2) k c f o bt bk bn ln ks la nx py fi rb de wt wk wn) := hD
    refine W.eq (g2 := F0 mm 29 ls []) rfl ?_
    refine lv_aload_n hx hb d_W_feed_29 rfl (lv_at hl 0 rfl) ?_
    refine lv_iload_n hx hb d_W_feed_30 rfl (lv_at hl 3 rfl) ?_
    refine y_callW (y_runV (As := [.int a3]) (rest := []) hx hb hml hown (c_W_feedFour l G h np no dg ((tl + 4) + 4) sk sc sf so n p fk fp (fd4 (fd4 t tl a1) (tl + 4) a2) k c f o bt bk bn ln ks la nx py fi rb de wt wk wn a3 (by omega)) (gV (n := 1) hg tk_258 tk_260 (gt_s 1 (by decide +kernel) (by decide +kernel)) tk_1 tk_261 (by decide +kernel) ⟨Nat.le_of_ble_eq_true rfl, Nat.le_of_ble_eq_true rfl⟩) (va_recv hK hP (ci := 4) (q0 := 0) rfl rfl) (y_preW hE hK hP hD hS hA) rfl rfl hl.1 rfl (lv_room (Nat.le_of_ble_eq_true rfl)) d_W_feed_31 ⟨Nat.le_of_ble_eq_true rfl, Nat.le_of_ble_eq_true rfl⟩) hD hS hA (fun _ _ _ _ _ _ hp => False.elim hp) (fun v9 w9 H locs hp hlw hP hD hS => ?_)
    obtain ⟨rfl, rfl⟩ := hp
    have hP : va_P (gD G) vwC (wW G h np no dg (((tl + 4) + 4) + 4) sk sc sf so n p fk fp (fd4 (fd4 (fd4 t tl a1) (tl + 4) a2) ((tl + 4) + 4) a3) k c f o bt bk bn ln ks la nx py fi rb de wt wk wn) H := hP
    have hD : va_D A (wW G h np no dg (((tl + 4) + 4) + 4) sk sc sf so n p fk fp (fd4 (fd4 (fd4 t tl a1) (tl + 4) a2) ((tl + 4) + 4) a3) k c f o bt bk bn ln ks la nx py fi rb de wt wk wn) := hD
    refine W.eq (g2 := F0 mm 34 ls []) rfl ?_
    refine lv_aload_n hx hb d_W_feed_34 rfl (lv_at hl 0 rfl) ?_
    refine lv_iload hx hb d_W_feed_35 (lv_at hl 4 rfl) ?_
    refine y_callW (y_runV (As := [.int a4]) (rest := []) hx hb hml hown (c_W_feedFour l G h np no dg (((tl + 4) + 4) + 4) sk sc sf so n p fk fp (fd4 (fd4 (fd4 t tl a1) (tl + 4) a2) ((tl + 4) + 4) a3) k c f o bt bk bn ln ks la nx py fi rb de wt wk wn a4 (by omega)) (gV (n := 1) hg tk_258 tk_260 (gt_s 1 (by decide +kernel) (by decide +kernel)) tk_1 tk_261 (by decide +kernel) ⟨Nat.le_of_ble_eq_true rfl, Nat.le_of_ble_eq_true rfl⟩) (va_recv hK hP (ci := 4) (q0 := 0) rfl rfl) (y_preW hE hK hP hD hS hA) rfl rfl hl.1 rfl (lv_room (Nat.le_of_ble_eq_true rfl)) d_W_feed_37 ⟨Nat.le_of_ble_eq_true rfl, Nat.le_of_ble_eq_true rfl⟩) hD hS hA (fun _ _ _ _ _ _ hp => False.elim hp) (fun v9 w9 H locs hp hlw hP hD hS => ?_)
    obtain ⟨rfl, rfl⟩ := hp
    have hP : va_P (gD G) vwC (wW G h np no dg ((((tl + 4) + 4) + 4) + 4) sk sc sf so n p fk fp (fd4 (fd4 (fd4 (fd4 t tl a1) (tl + 4) a2) ((tl + 4) + 4) a3) (((tl + 4) + 4) + 4) a4) k c f o bt bk bn ln ks la nx py fi rb de wt wk wn) H := hP
    have hD : va_D A (wW G h np no dg ((((tl + 4) + 4) + 4) + 4) sk sc sf so n p fk fp (fd4 (fd4 (fd4 (fd4 t tl a1) (tl + 4) a2) ((tl + 4) + 4) a3) (((tl + 4) + 4) + 4) a4) k c f o bt bk bn ln ks la nx py fi rb de wt wk wn) := hD
    refine W.eq (g2 := F0 mm 40 ls []) rfl ?_
    refine lv_aload_n hx hb d_W_feed_40 rfl (lv_at hl 0 rfl) ?_
    refine lv_iload hx hb d_W_feed_41 (lv_at hl 5 rfl) ?_
    refine y_callW (y_runV (As := [.int a5]) (rest := []) hx hb hml hown (c_W_feedFour l G h np no dg ((((tl + 4) + 4) + 4) + 4) sk sc sf so n p fk fp (fd4 (fd4 (fd4 (fd4 t tl a1) (tl + 4) a2) ((tl + 4) + 4) a3) (((tl + 4) + 4) + 4) a4) k c f o bt bk bn ln ks la nx py fi rb de wt wk wn a5 (by omega)) (gV (n := 1) hg tk_258 tk_260 (gt_s 1 (by decide +kernel) (by decide +kernel)) tk_1 tk_261 (by decide +kernel) ⟨Nat.le_of_ble_eq_true rfl, Nat.le_of_ble_eq_true rfl⟩) (va_recv hK hP (ci := 4) (q0 := 0) rfl rfl) (y_preW hE hK hP hD hS hA) rfl rfl hl.1 rfl (lv_room (Nat.le_of_ble_eq_true rfl)) d_W_feed_43 ⟨Nat.le_of_ble_eq_true rfl, Nat.le_of_ble_eq_true rfl⟩) hD hS hA (fun _ _ _ _ _ _ hp => False.elim hp) (fun v9 w9 H locs hp hlw hP hD hS => ?_)
    obtain ⟨rfl, rfl⟩ := hp
    have hP : va_P (gD G) vwC (wW G h np no dg (((((tl + 4) + 4) + 4) + 4) + 4) sk sc sf so n p fk fp (fd4 (fd4 (fd4 (fd4 (fd4 t tl a1) (tl + 4) a2) ((tl + 4) + 4) a3) (((tl + 4) + 4) + 4) a4) ((((tl + 4) + 4) + 4) + 4) a5) k c f o bt bk bn ln ks la nx py fi rb de wt wk wn) H := hP
    have hD : va_D A (wW G h np no dg (((((tl + 4) + 4) + 4) + 4) + 4) sk sc sf so n p fk fp (fd4 (fd4 (fd4 (fd4 (fd4 t tl a1) (tl + 4) a2) ((tl + 4) + 4) a3) (((tl + 4) + 4) + 4) a4) ((((tl + 4) + 4) + 4) + 4) a5) k c f o bt bk bn ln ks la nx py fi rb de wt wk wn) := hD
    refine W.eq (g2 := F0 mm 46 ls []) rfl ?_
    refine lv_aload_n hx hb d_W_feed_46 rfl (lv_at hl 0 rfl) ?_
    refine va_get (D := gD G) (ci := 4) (v := .int (nI (((((tl + 4) + 4) + 4) + 4) + 4))) (C := "WordShapes") (T := TW) (N := 5) hx hb hg iw_W hown hK hP 0 rfl rfl 4 (by decide) (hg _ tk_159) (fun _ h9 => h9) rfl d_W_feed_47 ?_
    exact yr_i (ws := wW G h np no dg (((((tl + 4) + 4) + 4) + 4) + 4) sk sc sf so n p fk fp (fd4 (fd4 (fd4 (fd4 (fd4 t tl a1) (tl + 4) a2) ((tl + 4) + 4) a3) (((tl + 4) + 4) + 4) a4) ((((tl + 4) + 4) + 4) + 4) a5) k c f o bt bk bn ln ks la nx py fi rb de wt wk wn) hx hb hrt hlocks (⟨by omega, rfl, rfl⟩) rfl hK hP hD hS d_W_feed_50
  · skip
    exact yt_S (ws := wW G h np no dg tl sk sc sf so n p fk fp t k c f o bt bk bn ln ks la nx py fi rb de wt wk wn) hx hb hlt hown xo_W_55_59 (nw_192 hE.1) (sr_232 hE.2.1) hg hE hK hP hD hS hA hml hl.1 hxt hlocks d_W_feed_9 d_W_feed_12 d_W_feed_13 d_W_feed_15 d_W_feed_18 (by decide) (by decide) (⟨by omega, rfl, rfl⟩) rfl
set_option maxHeartbeats 4000000 in
set_option maxRecDepth 100000 in
theorem c_W_end {l : Launch} (hlt : l.stackTraces = false) (G : gl) (h : Nat → Nat) (np : Nat) (no : Nat) (dg : Nat) (tl : Nat) (sk : Nat → Nat) (sc : Nat → Nat) (sf : Nat → Nat → Int32) (so : Nat → Nat → Int32) (n : Nat) (p : Nat) (fk : Nat) (fp : Nat) (t : Nat → Nat) (k : Nat) (c : Nat) (f : Nat → Int32) (o : Nat → Int32) (bt : Nat) (bk : Nat → Int32) (bn : Nat → Int32) (ln : Nat) (ks : Bool) (la : Nat) (nx : Nat) (py : Nat) (fi : Bool) (rb : Nat → Nat) (de : Nat → Int32) (wt : Nat) (wk : Nat → Int32) (wn : Nat → Int32) (x : Int32) (htl : tl ≤ 65536) : YC l G y_W_end k_W_end 2 (Option.some FieldType.int) 6 90 [.ref (h 0), .int x] (wW G h np no dg tl sk sc sf so n p fk fp t k c f o bt bk bn ln ks la nx py fi rb de wt wk wn) (fun v w => ∃ j, j ≤ 20 ∧ x = nI j ∧ 20 ≤ tl ∧ v = some (.int (nI (tl - 20 + j))) ∧ w = wW G h np no dg (tl - 20 + j) sk sc sf so n p fk fp t k c f o bt bk bn ln ks la nx py fi rb de wt wk wn) (fun E w => ((x < 0 ∨ ¬ x ≤ nI 20) ∧ E = "java/lang/IllegalArgumentException" ∨ (∃ j, j ≤ 20 ∧ x = nI j) ∧ tl < 20 ∧ E = "java/lang/IllegalStateException") ∧ w = wW G h np no dg tl sk sc sf so n p fk fp t k c f o bt bk bn ln ks la nx py fi rb de wt wk wn) := by
  refine yc_of (by decide) ?_
  intro pg ev sx mm bl mt cd A C0 hP hD
  obtain ⟨hx, hb, hrt, hml, hown, hg, hlocks, hxt, hE, hK, hA, hmn⟩ := C0
  have hS : va_S A sx.heap sx.heap [] := va_S.rf
  have hl := lv_entry ([.ref (h 0), .int x]) (n := 2) (Nat.le_of_ble_eq_true rfl)
  rw [lg_entry_eq]
  generalize (lg_sl ([.ref (h 0), .int x]) ++ List.replicate (2 - (lg_sl ([.ref (h 0), .int x])).length) Slot.unset).toArray = ls at hl ⊢
  have hl : lv_has ls 2 [(0, .ref (h 0)), (1, .int x)] := hl
  obtain ⟨H, hH⟩ : ∃ H, H = sx.heap := ⟨_, rfl⟩
  rw [← hH] at hP
  have hS : va_S A sx.heap H [] := by rw [hH]; exact hS
  suffices h9 : W pg l ev (yR 6 90) sx mm _ bl mt cd H [] 0 0 (yMQ bl G A _ _ _ _ sx) (F0 mm 0 ls []) by rw [hH] at h9; exact h9
  obtain ⟨locs, hlo⟩ : ∃ locs : List Loc, locs = [] := ⟨_, rfl⟩
  rw [← hlo] at hS ⊢
  refine lv_iload_n hx hb d_W_end_0 rfl (lv_at hl 1 rfl) ?_
  refine lv_if_lt (tgt := 10) hx hb d_W_end_1 (by decide) (fun c1 => ?_) (fun c1 => ?_)
  · skip
    exact yt_S (ws := wW G h np no dg tl sk sc sf so n p fk fp t k c f o bt bk bn ln ks la nx py fi rb de wt wk wn) hx hb hlt hown xo_W_65_69 (nw_272 hE.1) (sr_279 hE.2.1) hg hE hK hP hD hS hA hml hl.1 hxt hlocks d_W_end_10 d_W_end_13 d_W_end_14 d_W_end_16 d_W_end_19 (by decide) (by decide) (⟨Or.inl ⟨by first | exact Or.inl c1 | exact Or.inr c7, rfl⟩, rfl⟩) rfl
  · skip
    refine lv_iload_n hx hb d_W_end_4 rfl (lv_at hl 1 rfl) ?_
    refine lv_bipush (v := nI 20) hx hb d_W_end_5 (by decide) ?_
    refine lv_icmp_le (tgt := 20) hx hb d_W_end_7 (by decide) (fun c7 => ?_) (fun c7 => ?_)
    · skip
      obtain ⟨j, hj, rfl⟩ : ∃ j : Nat, j ≤ 20 ∧ x = nI j := nI_of2 (M := nI 20) (by decide) c1 c7
      refine lv_aload_n hx hb d_W_end_20 rfl (lv_at hl 0 rfl) ?_
      refine va_get (D := gD G) (ci := 4) (v := .int (nI tl)) (C := "WordShapes") (T := TW) (N := 5) hx hb hg iw_W hown hK hP 0 rfl rfl 4 (by decide) (hg _ tk_159) (fun _ h9 => h9) rfl d_W_end_21 ?_
      refine lv_bipush (v := nI 20) hx hb d_W_end_24 (by decide) ?_
      refine yn_icmp_ge (a := tl) (b := 20) (tgt := 39) hx hb d_W_end_26 (by decide) (by omega) (by omega) (fun c26 => ?_) (fun c26 => ?_)
      · skip
        refine lv_aload_n hx hb d_W_end_39 rfl (lv_at hl 0 rfl) ?_
        refine lv_aload_n hx hb d_W_end_40 rfl (lv_at hl 0 rfl) ?_
        refine va_get (D := gD G) (ci := 4) (v := .int (nI tl)) (C := "WordShapes") (T := TW) (N := 5) hx hb hg iw_W hown hK hP 0 rfl rfl 4 (by decide) (hg _ tk_159) (fun _ h9 => h9) rfl d_W_end_41 ?_
        refine lv_bipush (v := nI 20) hx hb d_W_end_44 (by decide) ?_
        refine lv_isub hx hb d_W_end_46 ?_
        refine y_eqi (pk_sub (by omega)) ?_
        refine lv_iload_n hx hb d_W_end_47 rfl (lv_at hl 1 rfl) ?_
        refine lv_iadd hx hb d_W_end_48 ?_
        refine y_eqi (nI_add _ _) ?_
        refine va_put (D := gD G) (ci := 4) (v := .int (nI (tl - 20 + j))) (ty := .int) (C := "WordShapes") (T := TW) (N := 5) hx hb hg iw_W ft_W fo_W nm_W hown hK hP hD hS 0 rfl rfl 4 (by decide) (hg _ tk_159) (fun _ h9 => h9) rfl (by decide +kernel) (rfl) (rfl) (Nat.le_of_ble_eq_true rfl) d_W_end_49 (fun H locs hP hD hS => ?_)
        have hP : va_P (gD G) vwC (wW G h np no dg (tl - 20 + j) sk sc sf so n p fk fp t k c f o bt bk bn ln ks la nx py fi rb de wt wk wn) H := hP
        have hD : va_D A (wW G h np no dg (tl - 20 + j) sk sc sf so n p fk fp t k c f o bt bk bn ln ks la nx py fi rb de wt wk wn) := hD
        refine lv_aload_n hx hb d_W_end_52 rfl (lv_at hl 0 rfl) ?_
        refine va_get (D := gD G) (ci := 4) (v := .int (nI (tl - 20 + j))) (C := "WordShapes") (T := TW) (N := 5) hx hb hg iw_W hown hK hP 0 rfl rfl 4 (by decide) (hg _ tk_159) (fun _ h9 => h9) rfl d_W_end_53 ?_
        exact yr_i (ws := wW G h np no dg (tl - 20 + j) sk sc sf so n p fk fp t k c f o bt bk bn ln ks la nx py fi rb de wt wk wn) hx hb hrt hlocks (⟨j, hj, rfl, by omega, rfl, rfl⟩) rfl hK hP hD hS d_W_end_56
      · skip
        exact yt_S (ws := wW G h np no dg tl sk sc sf so n p fk fp t k c f o bt bk bn ln ks la nx py fi rb de wt wk wn) hx hb hlt hown xo_W_55_59 (nw_192 hE.1) (sr_286 hE.2.1) hg hE hK hP hD hS hA hml hl.1 hxt hlocks d_W_end_29 d_W_end_32 d_W_end_33 d_W_end_35 d_W_end_38 (by decide) (by decide) (⟨Or.inr ⟨⟨j, hj, rfl⟩, by omega, rfl⟩, rfl⟩) rfl
    · skip
      exact yt_S (ws := wW G h np no dg tl sk sc sf so n p fk fp t k c f o bt bk bn ln ks la nx py fi rb de wt wk wn) hx hb hlt hown xo_W_65_69 (nw_272 hE.1) (sr_279 hE.2.1) hg hE hK hP hD hS hA hml hl.1 hxt hlocks d_W_end_10 d_W_end_13 d_W_end_14 d_W_end_16 d_W_end_19 (by decide) (by decide) (⟨Or.inl ⟨by first | exact Or.inl c1 | exact Or.inr c7, rfl⟩, rfl⟩) rfl
set_option maxHeartbeats 4000000 in
set_option maxRecDepth 100000 in
theorem c_W_shapeIn {l : Launch} (hlt : l.stackTraces = false) (G : gl) (h : Nat → Nat) (np : Nat) (no : Nat) (dg : Nat) (tl : Nat) (sk : Nat → Nat) (sc : Nat → Nat) (sf : Nat → Nat → Int32) (so : Nat → Nat → Int32) (n : Nat) (p : Nat) (fk : Nat) (fp : Nat) (t : Nat → Nat) (k : Nat) (c : Nat) (f : Nat → Int32) (o : Nat → Int32) (bt : Nat) (bk : Nat → Int32) (bn : Nat → Int32) (ln : Nat) (ks : Bool) (la : Nat) (nx : Nat) (py : Nat) (fi : Bool) (rb : Nat → Nat) (de : Nat → Int32) (wt : Nat) (wk : Nat → Int32) (wn : Nat → Int32) (i : Int32)  : YC l G y_W_shapeIn k_W_shapeIn 2 (Option.some (FieldType.object "WordShapes$Shape")) 6 90 [.ref (h 0), .int i] (wW G h np no dg tl sk sc sf so n p fk fp t k c f o bt bk bn ln ks la nx py fi rb de wt wk wn) (fun v w => ∃ j, j < 4 ∧ i = nI j ∧ v = some (.ref (h (2 + 3 * j))) ∧ w = wW G h np no dg tl sk sc sf so n p fk fp t k c f o bt bk bn ln ks la nx py fi rb de wt wk wn) (fun E w => ((i < 0 ∨ nI 4 ≤ i)) ∧ E = "java/lang/IndexOutOfBoundsException" ∧ w = wW G h np no dg tl sk sc sf so n p fk fp t k c f o bt bk bn ln ks la nx py fi rb de wt wk wn) := by
  refine yc_of (by decide) ?_
  intro pg ev sx mm bl mt cd A C0 hP hD
  obtain ⟨hx, hb, hrt, hml, hown, hg, hlocks, hxt, hE, hK, hA, hmn⟩ := C0
  have hS : va_S A sx.heap sx.heap [] := va_S.rf
  have hl := lv_entry ([.ref (h 0), .int i]) (n := 2) (Nat.le_of_ble_eq_true rfl)
  rw [lg_entry_eq]
  generalize (lg_sl ([.ref (h 0), .int i]) ++ List.replicate (2 - (lg_sl ([.ref (h 0), .int i])).length) Slot.unset).toArray = ls at hl ⊢
  have hl : lv_has ls 2 [(0, .ref (h 0)), (1, .int i)] := hl
  obtain ⟨H, hH⟩ : ∃ H, H = sx.heap := ⟨_, rfl⟩
  rw [← hH] at hP
  have hS : va_S A sx.heap H [] := by rw [hH]; exact hS
  suffices h9 : W pg l ev (yR 6 90) sx mm _ bl mt cd H [] 0 0 (yMQ bl G A _ _ _ _ sx) (F0 mm 0 ls []) by rw [hH] at h9; exact h9
  obtain ⟨locs, hlo⟩ : ∃ locs : List Loc, locs = [] := ⟨_, rfl⟩
  rw [← hlo] at hS ⊢
  refine lv_iload_n hx hb d_W_shapeIn_0 rfl (lv_at hl 1 rfl) ?_
  refine lv_if_lt (tgt := 9) hx hb d_W_shapeIn_1 (by decide) (fun c1 => ?_) (fun c1 => ?_)
  · skip
    exact yt_S (ws := wW G h np no dg tl sk sc sf so n p fk fp t k c f o bt bk bn ln ks la nx py fi rb de wt wk wn) hx hb hlt hown xo_W_100_104 (nw_301 hE.1) (sr_308 hE.2.1) hg hE hK hP hD hS hA hml hl.1 hxt hlocks d_W_shapeIn_9 d_W_shapeIn_12 d_W_shapeIn_13 d_W_shapeIn_15 d_W_shapeIn_18 (by decide) (by decide) (⟨by first | exact Or.inl c1 | exact Or.inr (Int32.not_lt.mp c6), rfl, rfl⟩) rfl
  · skip
    refine lv_iload_n hx hb d_W_shapeIn_4 rfl (lv_at hl 1 rfl) ?_
    refine lv_iconst (v := nI 4) hx hb d_W_shapeIn_5 (by decide) ?_
    refine lv_icmp_lt (tgt := 19) hx hb d_W_shapeIn_6 (by decide) (fun c6 => ?_) (fun c6 => ?_)
    · skip
      obtain ⟨j, hj, rfl⟩ : ∃ j : Nat, j < 4 ∧ i = nI j := by rcases pk_ix i (n := 4) (by decide) with q9 | q9 | q9; exact absurd q9 c1; exact absurd c6 (Int32.not_lt.mpr q9); exact q9
      refine lv_aload_n hx hb d_W_shapeIn_19 rfl (lv_at hl 0 rfl) ?_
      refine va_get (D := gD G) (ci := 4) (v := .ref (h 1)) (C := "WordShapes") (T := TW) (N := 5) hx hb hg iw_W hown hK hP 0 rfl rfl 0 (by decide) (hg _ tk_155) (fun _ h9 => h9) rfl d_W_shapeIn_20 ?_
      refine lv_iload_n hx hb d_W_shapeIn_23 rfl (lv_at hl 1 rfl) ?_
      refine va_aldq hx hb hK hP 1 2 rfl rfl (vp_in_nI (by omega) (by decide)) d_W_shapeIn_24 ?_
      rw [nI_clamp (by omega)]
      refine W.eq (g2 := F0 mm 25 ls [.ref (h (2 + 3 * j))]) rfl ?_
      exact yr_a (ws := wW G h np no dg tl sk sc sf so n p fk fp t k c f o bt bk bn ln ks la nx py fi rb de wt wk wn) hx hb hrt (Or.inl ⟨_, rfl⟩) hlocks (⟨j, hj, rfl, rfl, rfl⟩) rfl hK hP hD hS d_W_shapeIn_25
    · skip
      exact yt_S (ws := wW G h np no dg tl sk sc sf so n p fk fp t k c f o bt bk bn ln ks la nx py fi rb de wt wk wn) hx hb hlt hown xo_W_100_104 (nw_301 hE.1) (sr_308 hE.2.1) hg hE hK hP hD hS hA hml hl.1 hxt hlocks d_W_shapeIn_9 d_W_shapeIn_12 d_W_shapeIn_13 d_W_shapeIn_15 d_W_shapeIn_18 (by decide) (by decide) (⟨by first | exact Or.inl c1 | exact Or.inr (Int32.not_lt.mp c6), rfl, rfl⟩) rfl
set_option maxHeartbeats 4000000 in
set_option maxRecDepth 100000 in
theorem c_W_fault {l : Launch} (hlt : l.stackTraces = false) (G : gl) (h : Nat → Nat) (np : Nat) (no : Nat) (dg : Nat) (tl : Nat) (sk : Nat → Nat) (sc : Nat → Nat) (sf : Nat → Nat → Int32) (so : Nat → Nat → Int32) (n : Nat) (p : Nat) (fk : Nat) (fp : Nat) (t : Nat → Nat) (k : Nat) (c : Nat) (f : Nat → Int32) (o : Nat → Int32) (bt : Nat) (bk : Nat → Int32) (bn : Nat → Int32) (ln : Nat) (ks : Bool) (la : Nat) (nx : Nat) (py : Nat) (fi : Bool) (rb : Nat → Nat) (de : Nat → Int32) (wt : Nat) (wk : Nat → Int32) (wn : Nat → Int32) (x : Int32)  : YC l G y_W_fault k_W_fault 2 (Option.some FieldType.int) 6 90 [.ref (h 0), .int x] (wW G h np no dg tl sk sc sf so n p fk fp t k c f o bt bk bn ln ks la nx py fi rb de wt wk wn) (fun v w => (x = 0 ∨ x = nI 1) ∧ v = some (.int (if x = 0 then nI fk else nI fp)) ∧ w = wW G h np no dg tl sk sc sf so n p fk fp t k c f o bt bk bn ln ks la nx py fi rb de wt wk wn) (fun E w => (¬ (x = 0 ∨ x = nI 1)) ∧ E = "java/lang/IndexOutOfBoundsException" ∧ w = wW G h np no dg tl sk sc sf so n p fk fp t k c f o bt bk bn ln ks la nx py fi rb de wt wk wn) := by
  refine yc_of (by decide) ?_
  intro pg ev sx mm bl mt cd A C0 hP hD
  obtain ⟨hx, hb, hrt, hml, hown, hg, hlocks, hxt, hE, hK, hA, hmn⟩ := C0
  have hS : va_S A sx.heap sx.heap [] := va_S.rf
  have hl := lv_entry ([.ref (h 0), .int x]) (n := 2) (Nat.le_of_ble_eq_true rfl)
  rw [lg_entry_eq]
  generalize (lg_sl ([.ref (h 0), .int x]) ++ List.replicate (2 - (lg_sl ([.ref (h 0), .int x])).length) Slot.unset).toArray = ls at hl ⊢
  have hl : lv_has ls 2 [(0, .ref (h 0)), (1, .int x)] := hl
  obtain ⟨H, hH⟩ : ∃ H, H = sx.heap := ⟨_, rfl⟩
  rw [← hH] at hP
  have hS : va_S A sx.heap H [] := by rw [hH]; exact hS
  suffices h9 : W pg l ev (yR 6 90) sx mm _ bl mt cd H [] 0 0 (yMQ bl G A _ _ _ _ sx) (F0 mm 0 ls []) by rw [hH] at h9; exact h9
  obtain ⟨locs, hlo⟩ : ∃ locs : List Loc, locs = [] := ⟨_, rfl⟩
  rw [← hlo] at hS ⊢
  refine lv_iload_n hx hb d_W_fault_0 rfl (lv_at hl 1 rfl) ?_
  refine lv_if_ne (tgt := 12) hx hb d_W_fault_1 (by decide) (fun c1 => ?_) (fun c1 => ?_)
  · skip
    refine lv_iload_n hx hb d_W_fault_12 rfl (lv_at hl 1 rfl) ?_
    refine lv_iconst (v := nI 1) hx hb d_W_fault_13 (by decide) ?_
    refine lv_icmp_ne (tgt := 25) hx hb d_W_fault_14 (by decide) (fun c14 => ?_) (fun c14 => ?_)
    · skip
      exact yt_S (ws := wW G h np no dg tl sk sc sf so n p fk fp t k c f o bt bk bn ln ks la nx py fi rb de wt wk wn) hx hb hlt hown xo_W_100_104 (nw_301 hE.1) (sr_548 hE.2.1) hg hE hK hP hD hS hA hml hl.1 hxt hlocks d_W_fault_25 d_W_fault_28 d_W_fault_29 d_W_fault_31 d_W_fault_34 (by decide) (by decide) (⟨fun y => y.elim c1 c14, rfl, rfl⟩) rfl
    · skip
      refine lv_aload_n hx hb d_W_fault_17 rfl (lv_at hl 0 rfl) ?_
      refine va_get (D := gD G) (ci := 4) (v := .ref (h 14)) (C := "WordShapes") (T := TW) (N := 5) hx hb hg iw_W hown hK hP 0 rfl rfl 2 (by decide) (hg _ tk_157) (fun _ h9 => h9) rfl d_W_fault_18 ?_
      refine va_getN (D := gD G) (ci := 1) (v := .int (nI fp)) (C := "WordShapes$Reader") (T := TR) (N := 8) hx hb hg iw_R hown hK hP 14 rfl rfl 7 (by decide) (va_Nw.use rfl (nw_96 hE.1)) (fun _ h9 => h9) rfl d_W_fault_21 ?_
      exact yr_i (ws := wW G h np no dg tl sk sc sf so n p fk fp t k c f o bt bk bn ln ks la nx py fi rb de wt wk wn) hx hb hrt hlocks (⟨Or.inr c14, by rw [if_neg c1], rfl⟩) rfl hK hP hD hS d_W_fault_24
  · skip
    refine lv_aload_n hx hb d_W_fault_4 rfl (lv_at hl 0 rfl) ?_
    refine va_get (D := gD G) (ci := 4) (v := .ref (h 14)) (C := "WordShapes") (T := TW) (N := 5) hx hb hg iw_W hown hK hP 0 rfl rfl 2 (by decide) (hg _ tk_157) (fun _ h9 => h9) rfl d_W_fault_5 ?_
    refine va_getN (D := gD G) (ci := 1) (v := .int (nI fk)) (C := "WordShapes$Reader") (T := TR) (N := 8) hx hb hg iw_R hown hK hP 14 rfl rfl 6 (by decide) (va_Nw.use rfl (nw_94 hE.1)) (fun _ h9 => h9) rfl d_W_fault_8 ?_
    exact yr_i (ws := wW G h np no dg tl sk sc sf so n p fk fp t k c f o bt bk bn ln ks la nx py fi rb de wt wk wn) hx hb hrt hlocks (⟨Or.inl c1, by rw [if_pos c1], rfl⟩) rfl hK hP hD hS d_W_fault_11
set_option maxHeartbeats 4000000 in
set_option maxRecDepth 100000 in
theorem c_W_byteAt {l : Launch} (hlt : l.stackTraces = false) (G : gl) (h : Nat → Nat) (np : Nat) (no : Nat) (dg : Nat) (tl : Nat) (sk : Nat → Nat) (sc : Nat → Nat) (sf : Nat → Nat → Int32) (so : Nat → Nat → Int32) (n : Nat) (p : Nat) (fk : Nat) (fp : Nat) (t : Nat → Nat) (k : Nat) (c : Nat) (f : Nat → Int32) (o : Nat → Int32) (bt : Nat) (bk : Nat → Int32) (bn : Nat → Int32) (ln : Nat) (ks : Bool) (la : Nat) (nx : Nat) (py : Nat) (fi : Bool) (rb : Nat → Nat) (de : Nat → Int32) (wt : Nat) (wk : Nat → Int32) (wn : Nat → Int32) (i : Int32) (hln : ln ≤ 131072) (hrb : ∀ i, rb i < 256) : YC l G y_W_byteAt k_W_byteAt 2 (Option.some FieldType.int) 6 90 [.ref (h 0), .int i] (wW G h np no dg tl sk sc sf so n p fk fp t k c f o bt bk bn ln ks la nx py fi rb de wt wk wn) (fun v w => ∃ j, j < ln ∧ i = nI j ∧ v = some (.int (nI (rb j))) ∧ w = wW G h np no dg tl sk sc sf so n p fk fp t k c f o bt bk bn ln ks la nx py fi rb de wt wk wn) (fun E w => (i < 0 ∨ nI ln ≤ i) ∧ E = "java/lang/IndexOutOfBoundsException" ∧ w = wW G h np no dg tl sk sc sf so n p fk fp t k c f o bt bk bn ln ks la nx py fi rb de wt wk wn) := by
  refine yc_of (by decide) ?_
  intro pg ev sx mm bl mt cd A C0 hP hD
  obtain ⟨hx, hb, hrt, hml, hown, hg, hlocks, hxt, hE, hK, hA, hmn⟩ := C0
  have hS : va_S A sx.heap sx.heap [] := va_S.rf
  have hl := lv_entry ([.ref (h 0), .int i]) (n := 2) (Nat.le_of_ble_eq_true rfl)
  rw [lg_entry_eq]
  generalize (lg_sl ([.ref (h 0), .int i]) ++ List.replicate (2 - (lg_sl ([.ref (h 0), .int i])).length) Slot.unset).toArray = ls at hl ⊢
  have hl : lv_has ls 2 [(0, .ref (h 0)), (1, .int i)] := hl
  obtain ⟨H, hH⟩ : ∃ H, H = sx.heap := ⟨_, rfl⟩
  rw [← hH] at hP
  have hS : va_S A sx.heap H [] := by rw [hH]; exact hS
  suffices h9 : W pg l ev (yR 6 90) sx mm _ bl mt cd H [] 0 0 (yMQ bl G A _ _ _ _ sx) (F0 mm 0 ls []) by rw [hH] at h9; exact h9
  obtain ⟨locs, hlo⟩ : ∃ locs : List Loc, locs = [] := ⟨_, rfl⟩
  rw [← hlo] at hS ⊢
  refine lv_iload_n hx hb d_W_byteAt_0 rfl (lv_at hl 1 rfl) ?_
  refine lv_if_lt (tgt := 15) hx hb d_W_byteAt_1 (by decide) (fun c1 => ?_) (fun c1 => ?_)
  · skip
    exact yt_S (ws := wW G h np no dg tl sk sc sf so n p fk fp t k c f o bt bk bn ln ks la nx py fi rb de wt wk wn) hx hb hlt hown xo_W_100_104 (nw_301 hE.1) (sr_665 hE.2.1) hg hE hK hP hD hS hA hml hl.1 hxt hlocks d_W_byteAt_15 d_W_byteAt_18 d_W_byteAt_19 d_W_byteAt_21 d_W_byteAt_24 (by decide) (by decide) (⟨by first | exact Or.inl c1 | exact Or.inr (Int32.not_lt.mp c12), rfl, rfl⟩) rfl
  · skip
    refine lv_iload_n hx hb d_W_byteAt_4 rfl (lv_at hl 1 rfl) ?_
    refine lv_aload_n hx hb d_W_byteAt_5 rfl (lv_at hl 0 rfl) ?_
    refine va_get (D := gD G) (ci := 4) (v := .ref (h 22)) (C := "WordShapes") (T := TW) (N := 5) hx hb hg iw_W hown hK hP 0 rfl rfl 3 (by decide) (hg _ tk_158) (fun _ h9 => h9) rfl d_W_byteAt_6 ?_
    refine va_getN (D := gD G) (ci := 3) (v := .int (nI ln)) (C := "WordShapes$Writer") (T := TT) (N := 10) hx hb hg iw_T hown hK hP 22 rfl rfl 4 (by decide) (va_Nw.use rfl (nw_128 hE.1)) (fun _ h9 => h9) rfl d_W_byteAt_9 ?_
    refine lv_icmp_lt (tgt := 25) hx hb d_W_byteAt_12 (by decide) (fun c12 => ?_) (fun c12 => ?_)
    · skip
      obtain ⟨j, hj, rfl⟩ : ∃ j : Nat, j < ln ∧ i = nI j := by rcases pk_ix i (n := ln) (by omega) with q9 | q9 | q9; exact absurd q9 c1; exact absurd c12 (Int32.not_lt.mpr q9); exact q9
      refine lv_aload_n hx hb d_W_byteAt_25 rfl (lv_at hl 0 rfl) ?_
      refine va_get (D := gD G) (ci := 4) (v := .ref (h 22)) (C := "WordShapes") (T := TW) (N := 5) hx hb hg iw_W hown hK hP 0 rfl rfl 3 (by decide) (hg _ tk_158) (fun _ h9 => h9) rfl d_W_byteAt_26 ?_
      refine va_getN (D := gD G) (ci := 3) (v := .ref (h 23)) (C := "WordShapes$Writer") (T := TT) (N := 10) hx hb hg iw_T hown hK hP 22 rfl rfl 0 (by decide) (va_Nw.use rfl (nw_124 hE.1)) (fun _ h9 => h9) rfl d_W_byteAt_29 ?_
      refine lv_iload_n hx hb d_W_byteAt_32 rfl (lv_at hl 1 rfl) ?_
      refine yn_bald hx hb hK hP 23 1 rfl rfl (j := j) (x := sb_b (rb j)) (rfl) (by omega) (by omega) d_W_byteAt_33 ?_
      refine lv_sipush (v := nI 255) hx hb d_W_byteAt_34 (by decide) ?_
      refine lv_iand hx hb d_W_byteAt_37 ?_
      refine y_eqi (sb_byte _ (by exact hrb _)).1 ?_
      exact yr_i (ws := wW G h np no dg tl sk sc sf so n p fk fp t k c f o bt bk bn ln ks la nx py fi rb de wt wk wn) hx hb hrt hlocks (⟨j, hj, rfl, rfl, rfl⟩) rfl hK hP hD hS d_W_byteAt_38
    · skip
      exact yt_S (ws := wW G h np no dg tl sk sc sf so n p fk fp t k c f o bt bk bn ln ks la nx py fi rb de wt wk wn) hx hb hlt hown xo_W_100_104 (nw_301 hE.1) (sr_665 hE.2.1) hg hE hK hP hD hS hA hml hl.1 hxt hlocks d_W_byteAt_15 d_W_byteAt_18 d_W_byteAt_19 d_W_byteAt_21 d_W_byteAt_24 (by decide) (by decide) (⟨by first | exact Or.inl c1 | exact Or.inr (Int32.not_lt.mp c12), rfl, rfl⟩) rfl
