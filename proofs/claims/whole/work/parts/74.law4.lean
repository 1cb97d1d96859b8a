/-! what holds at the law's start -/
section Env
variable {s : State} {b : Nat}
def fl0 : List Cond := flatC (Jvm.Cond.and given_1 narrow_1)
theorem st_of {args : Array Value} {tm : Term} {byt : List Int32} {A : Nat → Prop} (hN : byt.length < 2 ^ 31) (hex : (Cond.exactly tm "java/lang/String").before args s = true) (hco : (Cond.eq (.field tm "java/lang/String" "coder" "B") (.int 0)).before args s = true) (har : (Cond.arrayOf (.field tm "java/lang/String" "value" "[B") .byte).before args s = true) (hle : (Cond.eq (.length (.field tm "java/lang/String" "value" "[B")) (.int (Int32.ofNat byt.length))).before args s = true)
    (hel : ∀ j : Nat, j < byt.length → (Cond.eq (.elem (.field tm "java/lang/String" "value" "[B") (.int (Int32.ofNat j))) (.int (byt.getD j 0))).before args s = true) (hA : ∀ a : Nat, a < s.heap.size → ¬ A a) : ∃ a v, tm.eval args s none [] s = some (.ref a) ∧ ST1 a v byt A s s.heap := by
  obtain ⟨a, c, cA, kA, q1, q2, q3, q4, q5, q6, -⟩ := Cond.exactly_spec (args := args) (first := s) (o := none) (s := s) (idx := []) (t := tm) (cls := "java/lang/String") hex
  obtain ⟨t, ht, hT⟩ := va_Tof (f := fun j => .int (byt.getD j 0)) (A := A) hN har (va_eqt hle) (fun j hj => va_eqt (hel j hj)) hA
  exact ⟨a, t, q1, ⟨cA, q3, q5, by rw [q6]; exact q2, hA a (Array.getElem?_eq_some_iff.mp q3).1⟩, vk_OFof q1 (va_eqt hco) hA, vk_OFof q1 ht hA, hT⟩
theorem ex_of {args : Array Value} {tm : Term} (hex : (Cond.exactly tm "java/lang/String").before args s = true) : ∃ a, tm.eval args s none [] s = some (.ref a) := by
  obtain ⟨a, c, cA, kA, q1, q2, q3, q4, q5, q6, -⟩ := Cond.exactly_spec (args := args) (first := s) (o := none) (s := s) (idx := []) (t := tm) (cls := "java/lang/String") hex
  exact ⟨a, q1⟩
theorem fs_0 (hs : ∀ c ∈ fl0, c.before #[Value.ref b] s = true) : ∃ a, (Term.string "WordShapes" 57).eval #[Value.ref b] s none [] s = some (.ref a) := ex_of (hs _ (by decide +kernel))
theorem fs_1 (hs : ∀ c ∈ fl0, c.before #[Value.ref b] s = true) : ∃ a, (Term.string "WordShapes" 67).eval #[Value.ref b] s none [] s = some (.ref a) := ex_of (hs _ (by decide +kernel))
theorem fs_2 (hs : ∀ c ∈ fl0, c.before #[Value.ref b] s = true) : ∃ a, (Term.string "WordShapes" 70).eval #[Value.ref b] s none [] s = some (.ref a) := ex_of (hs _ (by decide +kernel))
theorem fs_3 (hs : ∀ c ∈ fl0, c.before #[Value.ref b] s = true) : ∃ a, (Term.string "WordShapes" 156).eval #[Value.ref b] s none [] s = some (.ref a) := ex_of (hs _ (by decide +kernel))
theorem fs_4 (hs : ∀ c ∈ fl0, c.before #[Value.ref b] s = true) : ∃ a, (Term.string "WordShapes$Reader" 196).eval #[Value.ref b] s none [] s = some (.ref a) := ex_of (hs _ (by decide +kernel))
theorem fm_5 : ∀ j, j < (wdI 1).length → (Cond.eq (.elem (.field (.string "WordShapes" 158) "java/lang/String" "value" "[B") (.int (Int32.ofNat j))) (.int ((wdI 1).getD j 0))) ∈ fl0 := by decide +kernel
theorem fs_5 (hs : ∀ c ∈ fl0, c.before #[Value.ref b] s = true) : ∃ a v, (Term.string "WordShapes" 158).eval #[Value.ref b] s none [] s = some (.ref a) ∧ ST1 a v (wdI 1) (fun q => s.heap.size ≤ q) s s.heap := st_of (by decide) (hs _ (by decide +kernel)) (hs _ (by decide +kernel)) (hs _ (by decide +kernel)) (hs _ (by decide +kernel)) (fun j hj => hs _ (fm_5 j hj)) (fun a h z => Nat.not_le.mpr h z)
theorem fm_6 : ∀ j, j < (wdI 2).length → (Cond.eq (.elem (.field (.string "WordShapes" 160) "java/lang/String" "value" "[B") (.int (Int32.ofNat j))) (.int ((wdI 2).getD j 0))) ∈ fl0 := by decide +kernel
theorem fs_6 (hs : ∀ c ∈ fl0, c.before #[Value.ref b] s = true) : ∃ a v, (Term.string "WordShapes" 160).eval #[Value.ref b] s none [] s = some (.ref a) ∧ ST1 a v (wdI 2) (fun q => s.heap.size ≤ q) s s.heap := st_of (by decide) (hs _ (by decide +kernel)) (hs _ (by decide +kernel)) (hs _ (by decide +kernel)) (hs _ (by decide +kernel)) (fun j hj => hs _ (fm_6 j hj)) (fun a h z => Nat.not_le.mpr h z)
theorem fm_7 : ∀ j, j < (wdI 3).length → (Cond.eq (.elem (.field (.string "WordShapes" 162) "java/lang/String" "value" "[B") (.int (Int32.ofNat j))) (.int ((wdI 3).getD j 0))) ∈ fl0 := by decide +kernel
theorem fs_7 (hs : ∀ c ∈ fl0, c.before #[Value.ref b] s = true) : ∃ a v, (Term.string "WordShapes" 162).eval #[Value.ref b] s none [] s = some (.ref a) ∧ ST1 a v (wdI 3) (fun q => s.heap.size ≤ q) s s.heap := st_of (by decide) (hs _ (by decide +kernel)) (hs _ (by decide +kernel)) (hs _ (by decide +kernel)) (hs _ (by decide +kernel)) (fun j hj => hs _ (fm_7 j hj)) (fun a h z => Nat.not_le.mpr h z)
theorem fm_8 : ∀ j, j < (wdI 4).length → (Cond.eq (.elem (.field (.string "WordShapes" 164) "java/lang/String" "value" "[B") (.int (Int32.ofNat j))) (.int ((wdI 4).getD j 0))) ∈ fl0 := by decide +kernel
theorem fs_8 (hs : ∀ c ∈ fl0, c.before #[Value.ref b] s = true) : ∃ a v, (Term.string "WordShapes" 164).eval #[Value.ref b] s none [] s = some (.ref a) ∧ ST1 a v (wdI 4) (fun q => s.heap.size ≤ q) s s.heap := st_of (by decide) (hs _ (by decide +kernel)) (hs _ (by decide +kernel)) (hs _ (by decide +kernel)) (hs _ (by decide +kernel)) (fun j hj => hs _ (fm_8 j hj)) (fun a h z => Nat.not_le.mpr h z)
theorem fm_9 : ∀ j, j < (wdI 5).length → (Cond.eq (.elem (.field (.string "WordShapes" 166) "java/lang/String" "value" "[B") (.int (Int32.ofNat j))) (.int ((wdI 5).getD j 0))) ∈ fl0 := by decide +kernel
theorem fs_9 (hs : ∀ c ∈ fl0, c.before #[Value.ref b] s = true) : ∃ a v, (Term.string "WordShapes" 166).eval #[Value.ref b] s none [] s = some (.ref a) ∧ ST1 a v (wdI 5) (fun q => s.heap.size ≤ q) s s.heap := st_of (by decide) (hs _ (by decide +kernel)) (hs _ (by decide +kernel)) (hs _ (by decide +kernel)) (hs _ (by decide +kernel)) (fun j hj => hs _ (fm_9 j hj)) (fun a h z => Nat.not_le.mpr h z)
theorem fm_10 : ∀ j, j < (wdI 6).length → (Cond.eq (.elem (.field (.string "WordShapes" 168) "java/lang/String" "value" "[B") (.int (Int32.ofNat j))) (.int ((wdI 6).getD j 0))) ∈ fl0 := by decide +kernel
theorem fs_10 (hs : ∀ c ∈ fl0, c.before #[Value.ref b] s = true) : ∃ a v, (Term.string "WordShapes" 168).eval #[Value.ref b] s none [] s = some (.ref a) ∧ ST1 a v (wdI 6) (fun q => s.heap.size ≤ q) s s.heap := st_of (by decide) (hs _ (by decide +kernel)) (hs _ (by decide +kernel)) (hs _ (by decide +kernel)) (hs _ (by decide +kernel)) (fun j hj => hs _ (fm_10 j hj)) (fun a h z => Nat.not_le.mpr h z)
theorem fm_11 : ∀ j, j < (wdI 7).length → (Cond.eq (.elem (.field (.string "WordShapes" 170) "java/lang/String" "value" "[B") (.int (Int32.ofNat j))) (.int ((wdI 7).getD j 0))) ∈ fl0 := by decide +kernel
theorem fs_11 (hs : ∀ c ∈ fl0, c.before #[Value.ref b] s = true) : ∃ a v, (Term.string "WordShapes" 170).eval #[Value.ref b] s none [] s = some (.ref a) ∧ ST1 a v (wdI 7) (fun q => s.heap.size ≤ q) s s.heap := st_of (by decide) (hs _ (by decide +kernel)) (hs _ (by decide +kernel)) (hs _ (by decide +kernel)) (hs _ (by decide +kernel)) (fun j hj => hs _ (fm_11 j hj)) (fun a h z => Nat.not_le.mpr h z)
theorem fm_12 : ∀ j, j < (wdI 8).length → (Cond.eq (.elem (.field (.string "WordShapes$Reader" 181) "java/lang/String" "value" "[B") (.int (Int32.ofNat j))) (.int ((wdI 8).getD j 0))) ∈ fl0 := by decide +kernel
theorem fs_12 (hs : ∀ c ∈ fl0, c.before #[Value.ref b] s = true) : ∃ a v, (Term.string "WordShapes$Reader" 181).eval #[Value.ref b] s none [] s = some (.ref a) ∧ ST1 a v (wdI 8) (fun q => s.heap.size ≤ q) s s.heap := st_of (by decide) (hs _ (by decide +kernel)) (hs _ (by decide +kernel)) (hs _ (by decide +kernel)) (hs _ (by decide +kernel)) (fun j hj => hs _ (fm_12 j hj)) (fun a h z => Nat.not_le.mpr h z)
theorem fs_13 (hs : ∀ c ∈ fl0, c.before #[Value.ref b] s = true) : ∃ a, (Term.string "WordShapes" 102).eval #[Value.ref b] s none [] s = some (.ref a) := ex_of (hs _ (by decide +kernel))
theorem fs_14 (hs : ∀ c ∈ fl0, c.before #[Value.ref b] s = true) : ∃ a, (Term.string "WordShapes" 109).eval #[Value.ref b] s none [] s = some (.ref a) := ex_of (hs _ (by decide +kernel))
theorem fm_15 : ∀ j, j < (wdI 8).length → (Cond.eq (.elem (.field (.string "WordShapes$Writer" 105) "java/lang/String" "value" "[B") (.int (Int32.ofNat j))) (.int ((wdI 8).getD j 0))) ∈ fl0 := by decide +kernel
theorem fs_15 (hs : ∀ c ∈ fl0, c.before #[Value.ref b] s = true) : ∃ a v, (Term.string "WordShapes$Writer" 105).eval #[Value.ref b] s none [] s = some (.ref a) ∧ ST1 a v (wdI 8) (fun q => s.heap.size ≤ q) s s.heap := st_of (by decide) (hs _ (by decide +kernel)) (hs _ (by decide +kernel)) (hs _ (by decide +kernel)) (hs _ (by decide +kernel)) (fun j hj => hs _ (fm_15 j hj)) (fun a h z => Nat.not_le.mpr h z)
theorem fs_16 (hs : ∀ c ∈ fl0, c.before #[Value.ref b] s = true) : ∃ a, (Term.string "WordShapes" 118).eval #[Value.ref b] s none [] s = some (.ref a) := ex_of (hs _ (by decide +kernel))
theorem fs_17 (hs : ∀ c ∈ fl0, c.before #[Value.ref b] s = true) : ∃ a, (Term.string "WordShapes" 140).eval #[Value.ref b] s none [] s = some (.ref a) := ex_of (hs _ (by decide +kernel))
theorem fs_18 (hs : ∀ c ∈ fl0, c.before #[Value.ref b] s = true) : ∃ a, (Term.string "WordShapes" 145).eval #[Value.ref b] s none [] s = some (.ref a) := ex_of (hs _ (by decide +kernel))
theorem fs_19 (hs : ∀ c ∈ fl0, c.before #[Value.ref b] s = true) : ∃ a, (Term.string "WordShapes" 147).eval #[Value.ref b] s none [] s = some (.ref a) := ex_of (hs _ (by decide +kernel))
theorem fs_20 (hs : ∀ c ∈ fl0, c.before #[Value.ref b] s = true) : ∃ a, (Term.string "WordShapes" 152).eval #[Value.ref b] s none [] s = some (.ref a) := ex_of (hs _ (by decide +kernel))
theorem fs_21 (hs : ∀ c ∈ fl0, c.before #[Value.ref b] s = true) : ∃ a, (Term.string "WordShapes" 154).eval #[Value.ref b] s none [] s = some (.ref a) := ex_of (hs _ (by decide +kernel))
theorem tb_of (hts : ∀ w ∈ lw_tbl, w.before #[Value.ref b] s = true) {w : Cond} (h : w ∈ tables_1) : w.before #[Value.ref b] s = true := hts w (List.mem_append_right _ h)
theorem nws_of (hts : ∀ w ∈ lw_tbl, w.before #[Value.ref b] s = true) : NWs s := ⟨va_Nw.of rfl (tb_of hts tq_44), va_Nw.of rfl (tb_of hts tq_45), va_Nw.of rfl (tb_of hts tq_46), va_Nw.of rfl (tb_of hts tq_48), va_Nw.of rfl (tb_of hts tq_49), va_Nw.of rfl (tb_of hts tq_69), va_Nw.of rfl (tb_of hts tq_76), va_Nw.of rfl (tb_of hts tq_77), va_Nw.of rfl (tb_of hts tq_89), va_Nw.of rfl (tb_of hts tq_94), va_Nw.of rfl (tb_of hts tq_96), va_Nw.of rfl (tb_of hts tq_122), va_Nw.of rfl (tb_of hts tq_124), va_Nw.of rfl (tb_of hts tq_128), va_Nw.of rfl (tb_of hts tq_192), va_Nw.of rfl (tb_of hts tq_194), va_Nw.of rfl (tb_of hts tq_196), va_Nw.of rfl (tb_of hts tq_198), va_Nw.of rfl (tb_of hts tq_272), va_Nw.of rfl (tb_of hts tq_301), va_Nw.of rfl (tb_of hts tq_385), va_Nw.of rfl (tb_of hts tq_582), va_Nw.of rfl (tb_of hts tq_615)⟩
theorem nc5_of (hs : ∀ c ∈ fl0, c.before #[Value.ref b] s = true) : Nc5 s := ⟨va_Nc.of (hs (Cond.not (.castable "java/lang/IllegalStateException" "java/lang/IllegalArgumentException")) (by decide +kernel)), va_Nc.of (hs (Cond.not (.castable "java/lang/IllegalArgumentException" "java/lang/IndexOutOfBoundsException")) (by decide +kernel)), va_Nc.of (hs (Cond.not (.castable "java/lang/IllegalStateException" "java/lang/IndexOutOfBoundsException")) (by decide +kernel)), va_Nc.of (hs (Cond.not (.castable "java/lang/UnsupportedOperationException" "java/lang/IndexOutOfBoundsException")) (by decide +kernel)), va_Nc.of (hs (Cond.not (.castable "java/lang/UnsupportedOperationException" "java/lang/IllegalStateException")) (by decide +kernel))⟩
set_option maxHeartbeats 4000000 in
theorem env_start (hts : ∀ w ∈ lw_tbl, w.before #[Value.ref b] s = true) (hgv : (Jvm.Cond.and given_1 narrow_1).before #[Value.ref b] s = true) : ∃ G : gl, EV G (fun q => s.heap.size ≤ q) s s.heap ∧ va_K (gD G) vwC (gT G) s ∧ Nc5 s ∧ va_AO "WordShapes$Shape" s := by
  have hs : ∀ c ∈ fl0, c.before #[Value.ref b] s = true := flat_of_before _ hgv
  have hg := gt_lw hts
  have hA : ∀ a : Nat, a < s.heap.size → ¬ (fun q : Nat => s.heap.size ≤ q) a := fun a h z => Nat.not_le.mpr h z
  obtain ⟨a0, e0⟩ := fs_0 hs
  obtain ⟨a1, e1⟩ := fs_1 hs
  obtain ⟨a2, e2⟩ := fs_2 hs
  obtain ⟨a3, e3⟩ := fs_3 hs
  obtain ⟨a4, e4⟩ := fs_4 hs
  obtain ⟨a5, v5, e5, z5⟩ := fs_5 hs
  obtain ⟨a6, v6, e6, z6⟩ := fs_6 hs
  obtain ⟨a7, v7, e7, z7⟩ := fs_7 hs
  obtain ⟨a8, v8, e8, z8⟩ := fs_8 hs
  obtain ⟨a9, v9, e9, z9⟩ := fs_9 hs
  obtain ⟨a10, v10, e10, z10⟩ := fs_10 hs
  obtain ⟨a11, v11, e11, z11⟩ := fs_11 hs
  obtain ⟨a12, v12, e12, z12⟩ := fs_12 hs
  obtain ⟨a13, e13⟩ := fs_13 hs
  obtain ⟨a14, e14⟩ := fs_14 hs
  obtain ⟨a15, v15, e15, z15⟩ := fs_15 hs
  obtain ⟨a16, e16⟩ := fs_16 hs
  obtain ⟨a17, e17⟩ := fs_17 hs
  obtain ⟨a18, e18⟩ := fs_18 hs
  obtain ⟨a19, e19⟩ := fs_19 hs
  obtain ⟨a20, e20⟩ := fs_20 hs
  obtain ⟨a21, e21⟩ := fs_21 hs
  obtain ⟨c0, i0, k0⟩ := u_known (C := "WordShapes$Brackets") (T := TB) (N := 3) (n := 3) hg iw_B (hg _ tk_68)
  obtain ⟨c1, i1, k1⟩ := u_known (C := "WordShapes$Reader") (T := TR) (N := 8) (n := 8) hg iw_R (hg _ tk_62)
  obtain ⟨c2, i2, k2⟩ := u_known (C := "WordShapes$Shape") (T := TS) (N := 4) (n := 4) hg iw_S (hg _ tk_36)
  obtain ⟨c3, i3, k3⟩ := u_known (C := "WordShapes$Writer") (T := TT) (N := 10) (n := 10) hg iw_T (hg _ tk_115)
  obtain ⟨c4, i4, k4⟩ := u_known (C := "WordShapes") (T := TW) (N := 5) (n := 5) hg iw_W (hg _ tk_21)
  obtain ⟨c5, i5, k5⟩ := u_known (C := "WordShapesModel") (T := TM) (N := 24) (n := 24) hg iw_M (hg _ tk_675)
  obtain ⟨qI, rI, sI, fI1, fI2, fI3⟩ := Cond.arrayClass_spec (hg _ tk_59)
  obtain ⟨qB, rB, sB, fB1, fB2, fB3⟩ := Cond.arrayClass_spec (hg _ tk_85)
  obtain ⟨qJ, rJ, sJ, fJ1, fJ2, fJ3⟩ := Cond.arrayClass_spec (hg _ tk_950)
  have hAO := tb_of hts tq_29
  obtain ⟨sQ, qQ, rQ, fQ0, fQ9, fQ2, fQ3, fQ1⟩ := Cond.arrayOver_spec hAO
  refine ⟨(fun k => [c0, c1, c2, c3, c4, c5].getD k c0, fun k => [i0, i1, i2, i3, i4, i5].getD k i0, fun k => [qI, qB, qQ, qJ].getD k qI, fun k => [a0, a1, a2, a3, a4, a5, a6, a7, a8, a9, a10, a11, a12, a13, a14, a15, a16, a17, a18, a19, a20, a21].getD k 0, fun k => [0, 0, 0, 0, 0, v5, v6, v7, v8, v9, v10, v11, v12, 0, 0, v15, 0, 0, 0, 0, 0, 0].getD k 0), ⟨nws_of hts, ?_, ?_, ?_, ?_, ?_, ?_⟩, ⟨?_, ?_⟩, nc5_of hs, va_AO.of hAO⟩
  · exact ⟨vk_R.of (tb_of hts tq_232) e0, vk_R.of (tb_of hts tq_279) e1, vk_R.of (tb_of hts tq_286) e2, vk_R.of (tb_of hts tq_308) e3, vk_R.of (tb_of hts tq_375) e4, vk_R.of (tb_of hts tq_388) e5, vk_R.of (tb_of hts tq_389) e6, vk_R.of (tb_of hts tq_390) e7, vk_R.of (tb_of hts tq_391) e8, vk_R.of (tb_of hts tq_392) e9, vk_R.of (tb_of hts tq_393) e10, vk_R.of (tb_of hts tq_394) e11, vk_R.of (tb_of hts tq_467) e12, vk_R.of (tb_of hts tq_548) e13, vk_R.of (tb_of hts tq_561) e14, vk_R.of (tb_of hts tq_597) e15, vk_R.of (tb_of hts tq_622) e16, vk_R.of (tb_of hts tq_647) e17, vk_R.of (tb_of hts tq_655) e18, vk_R.of (tb_of hts tq_656) e19, vk_R.of (tb_of hts tq_665) e20, vk_R.of (tb_of hts tq_673) e21⟩
  · exact ⟨z5, z6, z7, z8, z9, z10, z11, z12, z15⟩
  · exact vx_Zqof (tb_of hts tq_217) (hg _ tk_8) (hs _ (by decide +kernel)) hA
  · exact vx_Zqof (tb_of hts tq_219) (hg _ tk_8) (hs _ (by decide +kernel)) hA
  · exact va_Zof (tb_of hts tq_408) (hg _ tk_14) (va_eqt (hs (Cond.eq (.static "java/lang/String" "COMPACT_STRINGS" "Z") (.int 1)) (by decide +kernel))) hA
  · exact va_Zqof (tb_of hts tq_424) (hg _ tk_16) (hs _ (by decide +kernel)) hA
  · intro k q hq
    match k, hq with
    | 0, hq => cases hq; exact k0
    | 1, hq => cases hq; exact k1
    | 2, hq => cases hq; exact k2
    | 3, hq => cases hq; exact k3
    | 4, hq => cases hq; exact k4
    | 5, hq => cases hq; exact k5
    | k + 6, hq => simp at hq
  · intro k q hq
    match k, hq with
    | 0, hq => cases hq; exact ⟨fun n z => ⟨(fun k h => by cases h), rI, fI2, sI, fI3⟩, fI1⟩
    | 1, hq => cases hq; exact ⟨fun n z => ⟨(fun k h => by cases h), rB, fB2, sB, fB3⟩, fB1⟩
    | 2, hq => cases hq; exact ⟨fun n z => ⟨(fun k h => by cases h), rQ, fQ2, sQ, fQ3⟩, rQ, sQ, fQ2, fQ3, fQ0, fQ1⟩
    | 3, hq => cases hq; exact ⟨fun n z => ⟨(fun k h => by cases h), rJ, fJ2, sJ, fJ3⟩, fJ1⟩
    | k + 4, hq => simp at hq
end Env
