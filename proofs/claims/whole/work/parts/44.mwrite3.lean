/-! the reference's writing, turn by turn -/
section Mw3
variable {dg k c : Nat} {f o : Nat → Int32} {τ : wSt}
/-- what is open: kinds and counts of the reference, and the class's brackets; E: the one whose next item has not begun -/
def Sk (D E : Nat) (ok oc bk bn : Nat → Int32) : Prop := bk 0 = nI 0 ∧ bn 0 = nI (if E = 0 then 1 else 0) ∧ ∀ j, j < D → ∃ K b, (K = 4 ∨ K = 5 ∨ K = 6 ∨ K = 7) ∧ b ≤ 65536 ∧ ok j = nI K ∧ bk (j + 1) = nI K ∧ oc j = nI (b + 1) ∧ bn (j + 1) = nI (if j + 1 = E then b + 1 else b)
theorem sk_c {D E : Nat} {ok oc bk bn ok' oc' bk' bn' : Nat → Int32} (h : Sk D E ok oc bk bn) (h1 : ∀ i, i ≤ D → bk' i = bk i ∧ bn' i = bn i) (h2 : ∀ j, j < D → ok' j = ok j ∧ oc' j = oc j) : Sk D E ok' oc' bk' bn' := by
  refine ⟨(h1 0 (Nat.zero_le _)).1.trans h.1, (h1 0 (Nat.zero_le _)).2.trans h.2.1, fun j hj => ?_⟩
  obtain ⟨K, b, a1, a2, a3, a4, a5, a6⟩ := h.2.2 j hj
  exact ⟨K, b, a1, a2, (h2 j hj).1.trans a3, (h1 (j + 1) hj).1.trans a4, (h2 j hj).2.trans a5, (h1 (j + 1) hj).2.trans a6⟩
theorem sk_top {D : Nat} {ok oc bk bn : Nat → Int32} (h : Sk D D ok oc bk bn) : ∃ K b, bk D = nI K ∧ bn D = nI (b + 1) ∧ b ≤ 65536 ∧ K ≤ 7 ∧ ((K = 0 ∧ D = 0) ∨ (0 < D ∧ ok (D - 1) = nI K ∧ (K = 4 ∨ K = 5 ∨ K = 6 ∨ K = 7))) ∧ Sk D (D + 1) ok oc bk (upd bn D (nI b)) := by
  cases D with
  | zero =>
    refine ⟨0, 0, h.1, h.2.1, by omega, by omega, Or.inl ⟨rfl, rfl⟩, h.1, upd_s _ _ _, fun j hj => absurd hj (Nat.not_lt_zero _)⟩
  | succ D =>
    obtain ⟨K, b, a1, a2, a3, a4, a5, a6⟩ := h.2.2 D (Nat.lt_succ_self _)
    rw [if_pos rfl] at a6
    refine ⟨K, b, a4, a6, a2, by omega, Or.inr ⟨Nat.succ_pos _, a3, a1⟩, h.1, ?_, fun j hj => ?_⟩
    · rw [upd_o (by omega), h.2.1, if_neg (by omega), if_neg (by omega)]
    · by_cases q : j = D
      · subst q
        exact ⟨K, b, a1, a2, a3, a4, a5, by rw [upd_s, if_neg (by omega)]⟩
      · obtain ⟨K1, b1, c1, c2, c3, c4, c5, c6⟩ := h.2.2 j hj
        rw [if_neg (by omega)] at c6
        exact ⟨K1, b1, c1, c2, c3, c4, c5, by rw [upd_o (by omega), c6, if_neg (by omega)]⟩
/-- an item is to come -/
def PO (dg k : Nat) (f : Nat → Int32) (c : Nat) (o : Nat → Int32) (τ : wSt) (M D nx py : Nat) (os : List Nat) (oc ok : Nat → Int32) : Prop := ∃ ou fi bk bn, os = ou ++ preT fi ∧ wRm dg k f c o M (ou, nx, py, fi, D, bk, bn) τ ∧ Sk D D ok oc bk bn
/-- an item has ended -/
def PI (dg k : Nat) (f : Nat → Int32) (c : Nat) (o : Nat → Int32) (τ : wSt) (M D nx py : Nat) (os : List Nat) (oc ok : Nat → Int32) : Prop := ∃ bk bn, wRm dg k f c o M (os, nx, py, false, D, bk, bn) τ ∧ Sk D (D + 1) ok oc bk bn
/-- r rings of v were put -/
def PG (dg k : Nat) (f : Nat → Int32) (c : Nat) (o : Nat → Int32) (τ : wSt) (M D nx py v r : Nat) (os : List Nat) (oc ok : Nat → Int32) : Prop := ∃ bk bn, wRm dg k f c o M (os, nx, py, decide (r = 0), D + 1, bk, bn) τ ∧ bk (D + 1) = nI 3 ∧ bn (D + 1) = nI (v - r) ∧ Sk D (D + 1) ok oc bk bn
/-- the words of an item, its word if it has one -/
def hdT (K kd : Nat) : List Nat := if K = 0 ∨ K = 7 then wdL kd ++ [32] else []
theorem po_it {M D nx py : Nat} {os : List Nat} {oc ok : Nat → Int32} (h : PO dg k f c o τ M D nx py os oc ok) : ∃ K kd v M', M = M' + 1 ∧ K ≤ 7 ∧ ((K = 0 ∧ D = 0) ∨ (0 < D ∧ ok (D - 1) = nI K ∧ (K = 4 ∨ K = 5 ∨ K = 6 ∨ K = 7))) ∧ f nx = nI kd ∧ 1 ≤ kd ∧ kd ≤ 7 ∧ (K = 0 ∨ K = 7 ∨ kd ≤ 3) ∧ f (nx + 1) = nI v ∧ v ≤ 65536 ∧ nx + 2 ≤ k ∧ D ≤ 52 ∧ (4 ≤ kd → D ≤ 50) ∧
    (v = 0 → PI dg k f c o τ M' D (nx + 2) py (os ++ hdT K kd ++ wdL 8) oc ok) ∧
    (0 < v → kd < 3 → ∃ M2, M2 < M' ∧ PI dg k f c o τ M2 D (nx + 2) (py + v) (os ++ hdT K kd ++ ([40] ++ ptsL dg o py v ++ [41])) oc ok ∧ ∀ j, j < v → py + j < c ∧ (o (2 * (py + j))).toInt.natAbs ≤ 1000000000 ∧ (o (2 * (py + j) + 1)).toInt.natAbs ≤ 1000000000) ∧
    (0 < v → kd = 3 → PG dg k f c o τ M' D (nx + 2) py v 0 (os ++ hdT K kd ++ [40]) oc ok) ∧
    (0 < v → 4 ≤ kd → PO dg k f c o τ M' (D + 1) (nx + 2) py (os ++ hdT K kd ++ [40]) (upd oc D (nI v)) (upd ok D (nI kd))) := by
  obtain ⟨ou, fi, bk, bn, e0, hr, hs⟩ := h
  obtain ⟨K, b, a1, a2, a3, a4, a5, a6⟩ := sk_top hs
  obtain ⟨M', rfl, g1, g2, hr2⟩ := wRm_it hr a1 (by omega) a2 (by omega) (by omega)
  have hsub : bn D - 1 = nI b := by rw [a2, sub1]
  have hKs : K = 0 ∨ K = 4 ∨ K = 5 ∨ K = 6 ∨ K = 7 := by rcases a5 with y | y; exact Or.inl y.1; exact Or.inr y.2.2
  obtain ⟨kd, e1, hk1, hk7, hk3, hD, hst⟩ : ∃ kd, f nx = nI kd ∧ 1 ≤ kd ∧ kd ≤ 7 ∧ (K = 0 ∨ K = 7 ∨ kd ≤ 3) ∧ nx + 2 ≤ k ∧ D ≤ 52 ∧ (4 ≤ kd → D ≤ 50) ∧ wIt dg K f o fi ou nx py D bk bn = bdW (nI kd) (f (nx + 1)) (os ++ hdT K kd) (nx + 2) py D bk (upd bn D (nI b)) := by
    by_cases hK : K = 0 ∨ K = 7
    · obtain ⟨b1, b2, kd, b3, b4, b5⟩ := g1.2.2.1 hK
      refine ⟨kd, b5, b3, b4, by omega, b1, by omega, fun _ => g2.1 hK, ?_⟩
      rw [wIt_c hK b5 b4, hsub, e0]
      unfold hdT
      rw [if_pos hK]
      simp only [List.append_assoc]
    · have hK2 : K = 4 ∨ K = 5 ∨ K = 6 := by omega
      obtain ⟨b1, b2⟩ := g1.2.2.2.1 hK2
      refine ⟨K - 3, g2.2.2.1 hK2, by omega, by omega, by omega, b1, by omega, fun z => by omega, ?_⟩
      rw [wIt_m hK2, g2.2.2.1 hK2, hsub, e0]
      unfold hdT
      rw [if_neg hK, List.append_nil]
  obtain ⟨v, hv, e2⟩ := g2.2.1 (by omega)
  rw [hst.2.2, e2] at hr2
  refine ⟨K, kd, v, M', rfl, a4, a5, e1, hk1, hk7, hk3, e2, hv, hD, hst.1, hst.2.1, ?_, ?_, ?_, ?_⟩
  · intro hv0
    subst hv0
    unfold bdW at hr2
    rw [if_pos (show nI 0 = 0 by decide), if_pos (show nI 0 = 0 by decide), if_pos (show nI 0 = 0 by decide), if_pos (show nI 0 = 0 by decide), show decide (¬ nI 0 = 0) = false from by decide] at hr2
    exact ⟨bk, _, hr2, a6⟩
  all_goals
    intro hv0
    have hn : ¬ nI v = 0 := fun z => by have := (eq0 (by omega)).mp z; omega
    unfold bdW at hr2
    rw [if_neg hn, if_neg hn, if_neg hn, if_neg hn, decide_eq_true hn] at hr2
    intro hkd
  · obtain ⟨M2, h1, h2, h3⟩ := pts_br (K := kd) (upd_s _ _ _) (by omega) (by omega) hr2
    rw [decide_eq_false (show ¬ v = 0 by omega)] at h2
    have e9 : os ++ hdT K kd ++ [40] ++ ptsL dg o py v ++ [41] = os ++ hdT K kd ++ ([40] ++ ptsL dg o py v ++ [41]) := by simp only [List.append_assoc]
    rw [e9] at h2
    exact ⟨M2, h1, ⟨_, _, h2, sk_c a6 (fun i hi => ⟨upd_o (by omega), upd_o (by omega)⟩) (fun j hj => ⟨rfl, rfl⟩)⟩, h3⟩
  · subst hkd
    refine ⟨_, _, hr2, upd_s _ _ _, by rw [upd_s, Nat.sub_zero], sk_c a6 (fun i hi => ⟨upd_o (by omega), upd_o (by omega)⟩) (fun j hj => ⟨rfl, rfl⟩)⟩
  · refine ⟨_, true, _, _, ?_, hr2, ?_⟩
    · show _ = _ ++ []
      rw [List.append_nil]
    · refine ⟨by rw [upd_o (by omega)]; exact hs.1, ?_, fun j hj => ?_⟩
      · rw [upd_o (by omega), a6.2.1, if_neg (by omega)]
      · by_cases q : j = D
        · subst q
          exact ⟨kd, v - 1, by omega, by omega, upd_s _ _ _, upd_s _ _ _, by rw [upd_s, show v - 1 + 1 = v by omega], by rw [upd_s, if_pos rfl, show v - 1 + 1 = v by omega]⟩
        · obtain ⟨K1, b1, c1, c2, c3, c4, c5, c6⟩ := a6.2.2 j (by omega)
          rw [if_neg (by omega)] at c6
          exact ⟨K1, b1, c1, c2, by rw [upd_o q]; exact c3, by rw [upd_o (by omega)]; exact c4, by rw [upd_o q]; exact c5, by rw [upd_o (by omega), c6, if_neg (by omega)]⟩
theorem pg_it {M D nx py v r : Nat} {os : List Nat} {oc ok : Nat → Int32} (hv : v ≤ 65536) (hr : r < v) (h : PG dg k f c o τ M D nx py v r os oc ok) : ∃ q M', M' < M ∧ 1 ≤ q ∧ q ≤ 65536 ∧ f nx = nI q ∧ nx + 1 ≤ k ∧ PG dg k f c o τ M' D (nx + 1) (py + q) v (r + 1) (os ++ (if r = 0 then [] else [44, 32]) ++ ([40] ++ ptsL dg o py q ++ [41])) oc ok ∧ ∀ j, j < q → py + j < c ∧ (o (2 * (py + j))).toInt.natAbs ≤ 1000000000 ∧ (o (2 * (py + j) + 1)).toInt.natAbs ≤ 1000000000 := by
  obtain ⟨bk, bn, hr1, h1, h2, h3⟩ := h
  obtain ⟨M', rfl, g1, g2, hr2⟩ := wRm_it hr1 h1 (by omega) h2 (by omega) (by omega)
  obtain ⟨q, q1, q2, e1⟩ := g2.2.2.2 rfl
  have hk := (g1.2.2.2.2.1 rfl).1
  have hn : ¬ nI q = 0 := fun z => by have := (eq0 (by omega)).mp z; omega
  have hsub : bn (D + 1) - 1 = nI (v - (r + 1)) := by rw [h2, show v - r = (v - (r + 1)) + 1 by omega, sub1]
  rw [wIt_3, e1, hsub] at hr2
  unfold bdW at hr2
  rw [if_neg hn, if_neg hn, if_neg hn, if_neg hn, decide_eq_true hn] at hr2
  obtain ⟨M2, c1, c2, c3⟩ := pts_br (K := 8) (upd_s _ _ _) (by omega) (by omega) hr2
  rw [decide_eq_false (show ¬ q = 0 by omega)] at c2
  have e2 : preT (decide (r = 0)) = if r = 0 then [] else [44, 32] := by
    by_cases y : r = 0
    · rw [decide_eq_true y, if_pos y]; rfl
    · rw [decide_eq_false y, if_neg y]; rfl
  have e3 : os ++ preT (decide (r = 0)) ++ [40] ++ ptsL dg o py q ++ [41] = os ++ (if r = 0 then [] else [44, 32]) ++ ([40] ++ ptsL dg o py q ++ [41]) := by rw [e2]; simp only [List.append_assoc]
  have e4 : false = decide (r + 1 = 0) := (decide_eq_false (show ¬ r + 1 = 0 by omega)).symm
  rw [e3, e4] at c2
  exact ⟨q, M2, by omega, q1, q2, e1, hk, ⟨_, _, c2, by rw [upd_o (by omega)]; exact h1, by rw [upd_o (by omega), upd_s], sk_c h3 (fun i hi => ⟨upd_o (by omega), by rw [upd_o (by omega), upd_o (by omega)]⟩) (fun j hj => ⟨rfl, rfl⟩)⟩, c3⟩
theorem pg_e {M D nx py v : Nat} {os : List Nat} {oc ok : Nat → Int32} (hv : 0 < v) (h : PG dg k f c o τ M D nx py v v os oc ok) : ∃ M', M' < M ∧ PI dg k f c o τ M' D nx py (os ++ [41]) oc ok := by
  obtain ⟨bk, bn, hr1, h1, h2, h3⟩ := h
  rw [Nat.sub_self] at h2
  obtain ⟨M', rfl, hr2⟩ := wRm_cl hr1 h2
  rw [decide_eq_false (show ¬ v = 0 by omega)] at hr2
  exact ⟨M', by omega, bk, bn, hr2, h3⟩
theorem pi_s {M D nx py : Nat} {os : List Nat} {oc ok : Nat → Int32} (h : PI dg k f c o τ M (D + 1) nx py os oc ok) : ∃ b, b ≤ 65536 ∧ oc D = nI (b + 1) ∧ (b = 0 → ∃ M', M' < M ∧ PI dg k f c o τ M' D nx py (os ++ [41]) (upd oc D (nI b)) ok) ∧ (0 < b → PO dg k f c o τ M (D + 1) nx py (os ++ [44, 32]) (upd oc D (nI b)) ok) := by
  obtain ⟨bk, bn, hr1, h3⟩ := h
  obtain ⟨K, b, a1, a2, a3, a4, a5, a6⟩ := h3.2.2 D (Nat.lt_succ_self _)
  rw [if_neg (by omega)] at a6
  refine ⟨b, a2, a5, fun hb => ?_, fun hb => ?_⟩
  · subst hb
    obtain ⟨M', rfl, hr2⟩ := wRm_cl hr1 a6
    refine ⟨M', by omega, bk, bn, hr2, h3.1, ?_, fun j hj => ?_⟩
    · rw [h3.2.1, if_neg (by omega), if_neg (by omega)]
    · obtain ⟨K1, b1, c1, c2, c3, c4, c5, c6⟩ := h3.2.2 j (by omega)
      rw [if_neg (by omega)] at c6
      exact ⟨K1, b1, c1, c2, c3, c4, by rw [upd_o (by omega)]; exact c5, by rw [c6, if_neg (by omega)]⟩
  · refine ⟨os, false, bk, bn, rfl, hr1, h3.1, ?_, fun j hj => ?_⟩
    · rw [h3.2.1, if_neg (by omega), if_neg (by omega)]
    · by_cases q : j = D
      · subst q
        exact ⟨K, b - 1, a1, by omega, a3, a4, by rw [upd_s, show b - 1 + 1 = b by omega], by rw [a6, if_pos rfl, show b - 1 + 1 = b by omega]⟩
      · obtain ⟨K1, b1, c1, c2, c3, c4, c5, c6⟩ := h3.2.2 j (by omega)
        rw [if_neg (by omega)] at c6
        exact ⟨K1, b1, c1, c2, c3, c4, by rw [upd_o q]; exact c5, by rw [c6, if_neg (by omega)]⟩
theorem pi_e {M nx py : Nat} {os : List Nat} {oc ok : Nat → Int32} (h : PI dg k f c o τ M 0 nx py os oc ok) : τ.1 = os := by
  obtain ⟨bk, bn, hr1, h3⟩ := h
  rw [wRm_e hr1 (by rw [h3.2.1, if_neg (by omega)])]
theorem po_0 {M : Nat} {bk bn oc ok : Nat → Int32} (h : wRm dg k f c o M ([], 0, 0, true, 0, upd bk 0 (nI 0), upd bn 0 (nI 1)) τ) : PO dg k f c o τ M 0 0 0 [] oc ok :=
  ⟨[], true, _, _, rfl, h, upd_s _ _ _, upd_s _ _ _, fun j hj => absurd hj (Nat.not_lt_zero _)⟩
end Mw3
