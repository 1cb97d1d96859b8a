theorem tk_177 : (Jvm.Cond.native ({ cls := "java/lang/System", name := "arraycopy", desc := "(Ljava/lang/Object;ILjava/lang/Object;II)V" } : Jvm.MethodName)) ∈ GT := gt_t 177 (by decide +kernel) (by decide +kernel)
/-- the first m bytes from another row -/
def cpT (f g : Nat → Nat) (m : Nat) : Nat → Nat := fun i => if i < m then f i else g i
theorem cpT_eq (f g : Nat → Nat) {m : Nat} (hm : m < 2 ^ 31) : va_cpy (fun i => sb_b (f i)) (fun i => sb_b (g i)) (nI 0).toNatClampNeg (nI 0).toNatClampNeg (nI m).toNatClampNeg = fun i => sb_b (cpT f g m i) := by
  rw [nI_clamp (by decide), nI_clamp hm]
  funext i
  unfold va_cpy cpT
  by_cases h : i < m
  · rw [if_pos ⟨Nat.zero_le _, by omega⟩, if_pos h]
    show sb_b (f (0 + (i - 0))) = _
    rw [Nat.zero_add, Nat.sub_zero]
  · rw [if_neg (fun z => h (by omega)), if_neg h]
theorem sb_fit (x : Nat) : fits .byte (.int (sb_b x)) = true := by
  show (decide (-128 ≤ (nI x).toInt8.toInt32) && decide ((nI x).toInt8.toInt32 ≤ 127)) = true
  have h1 := Int8.toInt_lt (nI x).toInt8
  have h2 := Int8.le_toInt (nI x).toInt8
  rw [Bool.and_eq_true, decide_eq_true_eq, decide_eq_true_eq, Int32.le_iff_toInt_le, Int32.le_iff_toInt_le, Int8.toInt_toInt32]
  have e1 : (-128 : Int32).toInt = -128 := by decide
  have e2 : (127 : Int32).toInt = 127 := by decide
  omega
/-- the result with what was put -/
def wrB (rb : Nat → Nat) (ou : List Nat) : Nat → Nat := fun j => if j < ou.length ∧ j < 131072 then ou.getD j 0 else rb j
theorem wrF_f (rb : Nat → Nat) (ou : List Nat) : wrF false (fun i => sb_b (rb i)) ou = fun i => sb_b (rb i) := by
  funext j; exact if_neg (fun z => by cases z.1)
theorem wrF_t (rb : Nat → Nat) (ou : List Nat) : wrF true (fun i => sb_b (rb i)) ou = fun i => sb_b (wrB rb ou i) := by
  funext j
  unfold wrF wrB
  by_cases h : j < ou.length ∧ j < 131072
  · rw [if_pos h, if_pos ⟨rfl, h⟩]
  · rw [if_neg h, if_neg (fun z => h z.2)]

set_option maxHeartbeats 4000000 in
set_option maxRecDepth 100000 in
theorem c_W_again (l : Launch) (G : gl) (h : Nat → Nat) (np : Nat) (no : Nat) (dg : Nat) (tl : Nat) (sk : Nat → Nat) (sc : Nat → Nat) (sf : Nat → Nat → Int32) (so : Nat → Nat → Int32) (n : Nat) (p : Nat) (fk : Nat) (fp : Nat) (t : Nat → Nat) (k : Nat) (c : Nat) (f : Nat → Int32) (o : Nat → Int32) (bt : Nat) (bk : Nat → Int32) (bn : Nat → Int32) (ln : Nat) (ks : Bool) (la : Nat) (nx : Nat) (py : Nat) (fi : Bool) (rb : Nat → Nat) (de : Nat → Int32) (wt : Nat) (wk : Nat → Int32) (wn : Nat → Int32)  (hln : ln ≤ 131072) : YC l G y_W_again k_W_again 1 (Option.some FieldType.int) 1 40 [.ref (h 0)] (wW G h np no dg tl sk sc sf so n p fk fp t k c f o bt bk bn ln ks la nx py fi rb de wt wk wn) (fun v w => v = some (.int (nI (min ln 65536))) ∧ w = wW G h np no dg (min ln 65536) sk sc sf so n p fk fp (cpT rb t (min ln 65536)) k c f o bt bk bn ln ks la nx py fi rb de wt wk wn) (fun _ _ => False) := by
  refine yc_of (by decide) ?_
  intro pg ev sx mm bl mt cd A C0 hP hD
  obtain ⟨hx, hb, hrt, hml, hown, hg, hlocks, hxt, hE, hK, hA, hmn⟩ := C0
  have hS : va_S A sx.heap sx.heap [] := va_S.rf
  have hl := lv_entry ([.ref (h 0)]) (n := 1) (Nat.le_of_ble_eq_true rfl)
  rw [lg_entry_eq]
  generalize (lg_sl ([.ref (h 0)]) ++ List.replicate (1 - (lg_sl ([.ref (h 0)])).length) Slot.unset).toArray = ls at hl ⊢
  have hl : lv_has ls 1 [(0, .ref (h 0))] := hl
  obtain ⟨H, hH⟩ : ∃ H, H = sx.heap := ⟨_, rfl⟩
  rw [← hH] at hP
  have hS : va_S A sx.heap H [] := by rw [hH]; exact hS
  suffices h9 : W pg l ev (yR 1 40) sx mm _ bl mt cd H [] 0 0 (yMQ bl G A _ _ _ _ sx) (F0 mm 0 ls []) by rw [hH] at h9; exact h9
  obtain ⟨locs, hlo⟩ : ∃ locs : List Loc, locs = [] := ⟨_, rfl⟩
  rw [← hlo] at hS ⊢
  refine lv_aload_n hx hb d_W_again_0 rfl (lv_at hl 0 rfl) ?_
  refine lv_aload_n hx hb d_W_again_1 rfl (lv_at hl 0 rfl) ?_
  refine va_get (D := gD G) (ci := 4) (v := .ref (h 22)) (C := "WordShapes") (T := TW) (N := 5) hx hb hg iw_W hown hK hP 0 rfl rfl 3 (by decide) (hg _ tk_158) (fun _ h9 => h9) rfl d_W_again_2 ?_
  refine va_getN (D := gD G) (ci := 3) (v := .int (nI ln)) (C := "WordShapes$Writer") (T := TT) (N := 10) hx hb hg iw_T hown hK hP 22 rfl rfl 4 (by decide) (va_Nw.use rfl (nw_128 hE.1)) (fun _ h9 => h9) rfl d_W_again_5 ?_
  refine lv_ldc (v := nI 65536) hx hb hown (hg _ tk_60) d_W_again_8 ?_
  refine va_mmin hx hb (hml.trans hl.1.symm) hown (hg _ tk_30) (hg _ tk_31) (hg _ tk_2) (hg _ tk_32) (Nat.le_of_ble_eq_true rfl) (Nat.le_of_ble_eq_true rfl) (Nat.le_of_ble_eq_true rfl) (Nat.le_of_ble_eq_true rfl) d_W_again_10 ?_
  refine y_eqi (y := nI (min ln 65536)) (minN (by omega) (by omega)) ?_
  refine va_put (D := gD G) (ci := 4) (v := .int (nI (min ln 65536))) (ty := .int) (C := "WordShapes") (T := TW) (N := 5) hx hb hg iw_W ft_W fo_W nm_W hown hK hP hD hS 0 rfl rfl 4 (by decide) (hg _ tk_159) (fun _ h9 => h9) rfl (by decide +kernel) (rfl) (rfl) (Nat.le_of_ble_eq_true rfl) d_W_again_13 (fun H locs hP hD hS => ?_)
  have hP : va_P (gD G) vwC (wW G h np no dg (min ln 65536) sk sc sf so n p fk fp t k c f o bt bk bn ln ks la nx py fi rb de wt wk wn) H := hP
  have hD : va_D A (wW G h np no dg (min ln 65536) sk sc sf so n p fk fp t k c f o bt bk bn ln ks la nx py fi rb de wt wk wn) := hD
  refine lv_aload_n hx hb d_W_again_16 rfl (lv_at hl 0 rfl) ?_
  refine va_get (D := gD G) (ci := 4) (v := .ref (h 22)) (C := "WordShapes") (T := TW) (N := 5) hx hb hg iw_W hown hK hP 0 rfl rfl 3 (by decide) (hg _ tk_158) (fun _ h9 => h9) rfl d_W_again_17 ?_
  refine va_getN (D := gD G) (ci := 3) (v := .ref (h 23)) (C := "WordShapes$Writer") (T := TT) (N := 10) hx hb hg iw_T hown hK hP 22 rfl rfl 0 (by decide) (va_Nw.use rfl (nw_124 hE.1)) (fun _ h9 => h9) rfl d_W_again_20 ?_
  refine lv_iconst (v := nI 0) hx hb d_W_again_23 (by decide) ?_
  refine lv_aload_n hx hb d_W_again_24 rfl (lv_at hl 0 rfl) ?_
  refine va_get (D := gD G) (ci := 4) (v := .ref (h 15)) (C := "WordShapes") (T := TW) (N := 5) hx hb hg iw_W hown hK hP 0 rfl rfl 1 (by decide) (hg _ tk_156) (fun _ h9 => h9) rfl d_W_again_25 ?_
  refine lv_iconst (v := nI 0) hx hb d_W_again_28 (by decide) ?_
  refine lv_aload_n hx hb d_W_again_29 rfl (lv_at hl 0 rfl) ?_
  refine va_get (D := gD G) (ci := 4) (v := .int (nI (min ln 65536))) (C := "WordShapes") (T := TW) (N := 5) hx hb hg iw_W hown hK hP 0 rfl rfl 4 (by decide) (hg _ tk_159) (fun _ h9 => h9) rfl d_W_again_30 ?_
  refine va_copyi hx hb (hml.trans hl.1.symm) hown (hg _ tk_175) (hg _ tk_177) (hg _ tk_176) (hg _ tk_19) hK hP hD hS 23 15 1 1 rfl rfl rfl rfl rfl (nI_pos (by omega)) (nI_pos (by omega)) (nI_pos (by omega)) (by rw [nI_clamp (by decide), nI_clamp (by omega)]; omega) (by rw [nI_clamp (by decide), nI_clamp (by omega)]; omega) (fun i _ => sb_fit _) (Nat.le_of_ble_eq_true rfl) (Nat.le_of_ble_eq_true rfl) d_W_again_33 (fun H locs hP hD hS => ?_)
  rw [cpT_eq _ _ (by omega)] at hP hD
  have hP : va_P (gD G) vwC (wW G h np no dg (min ln 65536) sk sc sf so n p fk fp (cpT rb t (min ln 65536)) k c f o bt bk bn ln ks la nx py fi rb de wt wk wn) H := hP
  have hD : va_D A (wW G h np no dg (min ln 65536) sk sc sf so n p fk fp (cpT rb t (min ln 65536)) k c f o bt bk bn ln ks la nx py fi rb de wt wk wn) := hD
  refine lv_aload_n hx hb d_W_again_36 rfl (lv_at hl 0 rfl) ?_
  refine va_get (D := gD G) (ci := 4) (v := .int (nI (min ln 65536))) (C := "WordShapes") (T := TW) (N := 5) hx hb hg iw_W hown hK hP 0 rfl rfl 4 (by decide) (hg _ tk_159) (fun _ h9 => h9) rfl d_W_again_37 ?_
  exact yr_i (ws := wW G h np no dg (min ln 65536) sk sc sf so n p fk fp (cpT rb t (min ln 65536)) k c f o bt bk bn ln ks la nx py fi rb de wt wk wn) hx hb hrt hlocks (⟨rfl, rfl⟩) rfl hK hP hD hS d_W_again_40
