/-! the class's turns, as the reference takes them -/
section Mw2
variable {dg k c : Nat} {f o : Nat → Int32}
theorem wRm_it {m nx py bt K b : Nat} {ou : List Nat} {fi : Bool} {bk bn : Nat → Int32} {τ : wSt} (h : wRm dg k f c o m (ou, nx, py, fi, bt, bk, bn) τ) (hK : bk bt = nI K) (hK8 : K ≤ 8) (hb : bn bt = nI b) (hb0 : 0 < b) (hb2 : b < 2 ^ 30) : ∃ m', m = m' + 1 ∧ wIo K k f c o nx py bt ∧ wIq K f nx bt ∧ wRm dg k f c o m' (wIt dg K f o fi ou nx py bt bk bn) τ := by
  have h0 : 0 < bn bt := by rw [hb]; exact (gt0 (by omega)).mpr hb0
  have hd : ¬ wDn (ou, nx, py, fi, bt, bk, bn) := fun z => by
    have h1 : bt = 0 := z.1
    subst h1
    exact z.2 h0
  cases m with
  | zero => exact absurd h.1 hd
  | succ m =>
    rcases h with h | ⟨-, ⟨h1, h2⟩, h3⟩
    · exact absurd h.1 hd
    · obtain ⟨K2, a1, a2⟩ := h1.2 h0
      have e : K2 = K := (nI_eq (by have := a2.1; omega) (by omega)).mp (a1.symm.trans hK)
      subst e
      refine ⟨m, rfl, a2, h2 h0 _ hK8 hK, ?_⟩
      unfold wSp at h3
      rw [if_pos h0] at h3
      rw [show (bk bt).toNatClampNeg = K2 by rw [hK, nI_clamp (by omega)]] at h3
      exact h3
theorem wRm_cl {m nx py bt : Nat} {ou : List Nat} {fi : Bool} {bk bn : Nat → Int32} {τ : wSt} (h : wRm dg k f c o m (ou, nx, py, fi, bt + 1, bk, bn) τ) (hb : bn (bt + 1) = nI 0) : ∃ m', m = m' + 1 ∧ wRm dg k f c o m' (ou ++ [41], nx, py, fi, bt, bk, bn) τ := by
  have h0 : ¬ 0 < bn (bt + 1) := by rw [hb]; decide
  have hd : ¬ wDn (ou, nx, py, fi, bt + 1, bk, bn) := fun z => absurd z.1 (Nat.succ_ne_zero _)
  cases m with
  | zero => exact absurd h.1 hd
  | succ m =>
    rcases h with h | ⟨-, -, h3⟩
    · exact absurd h.1 hd
    · refine ⟨m, rfl, ?_⟩
      unfold wSp at h3
      rw [if_neg h0] at h3
      exact h3
theorem wRm_e {m nx py : Nat} {ou : List Nat} {fi : Bool} {bk bn : Nat → Int32} {τ : wSt} (h : wRm dg k f c o m (ou, nx, py, fi, 0, bk, bn) τ) (hb : bn 0 = nI 0) : τ = (ou, nx, py, fi, 0, bk, bn) := by
  have hd : wDn (ou, nx, py, fi, 0, bk, bn) := ⟨rfl, by show ¬ 0 < bn 0; rw [hb]; decide⟩
  cases m with
  | zero => exact h.2
  | succ m =>
    rcases h with h | h
    · exact h.2
    · exact absurd hd h.1
theorem upd_u (g : Nat → Int32) (i : Nat) (x y : Int32) : upd (upd g i x) i y = upd g i y := by
  funext j; unfold upd; split <;> rfl
/-- a bracket of points -/
theorem pts_go {m nx py bt K C : Nat} {ou : List Nat} {bk bn : Nat → Int32} {τ : wSt} (hK : bk (bt + 1) = nI K) (hK' : K = 1 ∨ K = 2 ∨ K = 8) (hC : C < 2 ^ 30) (h : wRm dg k f c o m (ou, nx, py, true, bt + 1, bk, upd bn (bt + 1) (nI C)) τ) : ∀ i, i ≤ C → ∃ m', m' ≤ m ∧ wRm dg k f c o m' (ou ++ ptsL dg o py i, nx, py + i, decide (i = 0), bt + 1, bk, upd bn (bt + 1) (nI (C - i))) τ ∧ ∀ j, j < i → py + j < c ∧ (o (2 * (py + j))).toInt.natAbs ≤ 1000000000 ∧ (o (2 * (py + j) + 1)).toInt.natAbs ≤ 1000000000
  | 0, _ => ⟨m, Nat.le_refl _, by rw [show ptsL dg o py 0 = [] from rfl, List.append_nil]; exact h, fun j hj => absurd hj (Nat.not_lt_zero _)⟩
  | i + 1, hi => by
    obtain ⟨m1, h1, h2, h3⟩ := pts_go hK hK' hC h i (by omega)
    obtain ⟨m2, rfl, a1, -, a2⟩ := wRm_it h2 hK (by omega) (upd_s _ _ _) (by omega) (by omega)
    rw [wIt_d hK', upd_s, upd_u] at a2
    have e1 : nI (C - i) - 1 = nI (C - (i + 1)) := by rw [show C - i = (C - (i + 1)) + 1 by omega, sub1]
    have e2 : ou ++ ptsL dg o py i ++ preT (decide (i = 0)) ++ ptT dg o (py + i) = ou ++ ptsL dg o py (i + 1) := by
      show _ = ou ++ (ptsL dg o py i ++ ((if i = 0 then [] else [44, 32]) ++ ptT dg o (py + i)))
      by_cases q : i = 0
      · rw [decide_eq_true q, if_pos q]; simp only [preT, cond, List.append_assoc]
      · rw [decide_eq_false q, if_neg q]; simp only [preT, cond, List.append_assoc]
    rw [e1, e2] at a2
    refine ⟨m2, by omega, a2, fun j hj => ?_⟩
    rcases Nat.lt_or_ge j i with y | y
    · exact h3 j y
    · rw [show j = i by omega]
      exact a1.2.2.2.2.2 hK'
theorem pts_br {m nx py bt K C : Nat} {ou : List Nat} {bk bn : Nat → Int32} {τ : wSt} (hK : bk (bt + 1) = nI K) (hK' : K = 1 ∨ K = 2 ∨ K = 8) (hC : C < 2 ^ 30) (h : wRm dg k f c o m (ou, nx, py, true, bt + 1, bk, upd bn (bt + 1) (nI C)) τ) : ∃ m', m' < m ∧ wRm dg k f c o m' (ou ++ ptsL dg o py C ++ [41], nx, py + C, decide (C = 0), bt, bk, upd bn (bt + 1) (nI 0)) τ ∧ ∀ j, j < C → py + j < c ∧ (o (2 * (py + j))).toInt.natAbs ≤ 1000000000 ∧ (o (2 * (py + j) + 1)).toInt.natAbs ≤ 1000000000 := by
  obtain ⟨m1, h1, h2, h3⟩ := pts_go hK hK' hC h C (Nat.le_refl _)
  rw [Nat.sub_self] at h2
  obtain ⟨m2, rfl, a2⟩ := wRm_cl h2 (upd_s _ _ _)
  exact ⟨m2, by omega, a2, h3⟩
end Mw2
