section MSm
variable {t : Nat → Nat} {n dg mp ml : Nat} {p q m F K d : Nat} {xs xs' : List Int32} {ys ys' : List (Int32 × Int32)} {e : Nat × Nat}
theorem lk_lt {b : Bool} {v : Nat} (hp : p ≤ n) (hv : v ≤ 1) (h : lkM t n b p = .inr (v, q)) : p < q := by
  have b1 := rn_ge (P := blN) (t := t) hp
  have b2 := rn_le (P := blN) (t := t) hp
  unfold lkM at h
  split at h
  · cases h; omega
  · split at h
    · cases h; omega
    · split at h
      · cases h
      · next h3 =>
        have h4 : leN (hr t n (rn blN t n p)) = true := by cases y : leN (hr t n (rn blN t n p)); exact absurd y h3; rfl
        have h5 : rn blN t n p < n := by
          rcases Nat.lt_or_ge (rn blN t n p) n with y | y
          · exact y
          · rw [show hr t n (rn blN t n p) = 256 from if_neg (by omega)] at h4; exact absurd h4 (by decide)
        rw [show hr t n (rn blN t n p) = t (rn blN t n p) from if_pos h5] at h4
        have h6 := rn_step h5 h4
        have h7 := rn_ge (P := leN) (t := t) (show rn blN t n p + 1 ≤ n by omega)
        split at h
        · cases h; omega
        · cases h
theorem lk_v {b : Bool} {v : Nat} (h : lkM t n b p = .inr (v, q)) : v = 0 ∨ v = 1 ∨ (v = 2 ∧ b = true) := by
  unfold lkM at h
  split at h
  · cases h; omega
  · split at h
    · next h1 => cases h; exact Or.inr (Or.inr ⟨rfl, h1.1⟩)
    · split at h
      · cases h
      · split at h
        · cases h; omega
        · cases h
theorem paI_bd (hp : p ≤ n) (hx : xs.length ≤ ml) (hy : ys.length ≤ mp) (h : paI t n dg mp ml K p xs ys = .inr (q, xs', ys')) : p < q ∧ q ≤ n ∧ xs.length ≤ xs'.length ∧ xs'.length ≤ ml ∧ ys.length ≤ ys'.length ∧ ys'.length ≤ mp := by
  have b1 := rn_ge (P := blN) (t := t) hp
  have b2 := rn_le (P := blN) (t := t) hp
  have hl : (xs ++ [nI (K - 3)] ++ [nI 0]).length = xs.length + 2 := by simp
  unfold paI at h
  split at h
  · next h0 =>
    cases h1 : lkM t n (decide (K = 4)) (rn blN t n p) with
    | inl e => rw [h1] at h; cases h
    | inr r =>
      obtain ⟨v, q1⟩ := r
      have b3 := lk_bd b2 h1
      rw [h1] at h
      rcases lk_v h1 with rfl | rfl | ⟨rfl, -⟩
      · have b4 := lk_lt b2 (by decide) h1
        dsimp only at h
        rw [if_pos rfl] at h
        cases h
        rw [List.length_set, hl]
        omega
      · have b4 := lk_lt b2 (by decide) h1
        dsimp only at h
        rw [if_neg (by decide), if_pos rfl] at h
        cases h2 : siM t n dg mp ml (K - 3) q1 (xs ++ [nI (K - 3)] ++ [nI 0]) ys with
        | inl e => rw [h2] at h; cases h
        | inr r =>
          obtain ⟨q2, c, xs2, ys2⟩ := r
          rw [h2] at h
          have b5 := si_bd b3.2 (by rw [hl]; omega) hy h2
          rw [hl] at b5
          cases h
          rw [List.length_set]
          omega
      · dsimp only at h
        rw [if_neg (by decide), if_neg (by decide)] at h
        cases h2 : cdM t n dg mp q1 ys with
        | inl e => rw [h2] at h; cases h
        | inr r =>
          obtain ⟨q2, ys2⟩ := r
          rw [h2] at h
          have b5 := cd_bd b3.2 h2
          cases h
          rw [List.length_set, hl]
          omega
  · cases h
theorem pa_bd : ∀ (F p m : Nat) (xs : List Int32) (ys : List (Int32 × Int32)) {q m' : Nat} {xs' : List Int32} {ys' : List (Int32 × Int32)}, p ≤ n → xs.length ≤ ml → ys.length ≤ mp → paM t n dg mp ml K F p m xs ys = .inr (q, m', xs', ys') → p < q ∧ q ≤ n ∧ xs.length ≤ xs'.length ∧ xs'.length ≤ ml ∧ ys.length ≤ ys'.length ∧ ys'.length ≤ mp ∧ m + 1 ≤ m' ∧ m' ≤ m + (q - p)
  | 0, p, m, xs, ys, q, m', xs', ys', _, _, _, h => by cases h
  | F + 1, p, m, xs, ys, q, m', xs', ys', hp, hx, hy, h => by
    rw [pa_s] at h
    cases h1 : paI t n dg mp ml K p xs ys with
    | inl e => rw [h1] at h; cases h
    | inr r =>
      obtain ⟨q1, xs1, ys1⟩ := r
      rw [h1] at h
      have b1 := paI_bd hp hx hy h1
      cases h2 : goM t n q1 with
      | inl e => simp only [h2] at h; cases h
      | inr r =>
        obtain ⟨b, q2⟩ := r
        have b2 := goM_bd b1.2.1 h2
        cases b with
        | true =>
          simp only [h2] at h
          have b3 := pa_bd F q2 (m + 1) xs1 ys1 b2.2 (by omega) (by omega) h
          omega
        | false =>
          simp only [h2] at h
          cases h
          omega
theorem bd_bd {m' : Nat} (hp : p ≤ n) (hx : xs.length ≤ ml) (hy : ys.length ≤ mp) (h : bdM t n dg mp ml K p xs ys = .inr (q, m', xs', ys')) : p < q ∧ q ≤ n ∧ xs.length ≤ xs'.length ∧ xs'.length ≤ ml ∧ ys.length ≤ ys'.length ∧ ys'.length ≤ mp ∧ 1 ≤ m' ∧ m' ≤ n := by
  unfold bdM at h
  split at h
  · exact si_bd hp hx hy h
  · have := pa_bd _ _ _ _ _ hp hx hy h; omega
theorem kd_le {k : Nat} (h : kdM t n d p = .inr k) : 1 ≤ k ∧ k ≤ 7 ∧ (k = 7 → d < 50) ∧ k = lsM t p (rn leN t n p) 8 := by
  have := lsM_le t p (rn leN t n p) 8
  unfold kdM at h
  split at h
  · cases h
  · split at h
    · cases h
    · split at h
      · cases h
      · cases h; exact ⟨by omega, by omega, fun y => by omega, rfl⟩
theorem shB_bd {k e w : Nat} {b : Bool} (hp : e ≤ n) (hx : xs.length ≤ ml) (hy : ys.length ≤ mp) (h : shB t n dg mp ml k e xs ys = .inr (b, q, w, xs', ys')) : e < q ∧ q ≤ n ∧ xs.length + 2 ≤ xs'.length ∧ xs'.length ≤ ml ∧ ys.length ≤ ys'.length ∧ ys'.length ≤ mp ∧ (b = true → w = xs.length + 1 ∧ k = 7) := by
  have b1 := rn_ge (P := blN) (t := t) hp
  have b2 := rn_le (P := blN) (t := t) hp
  have hl : (xs ++ [nI k] ++ [nI 0]).length = xs.length + 2 := by simp
  unfold shB at h
  split at h
  · next h0 =>
    cases h1 : lkM t n false (rn blN t n e) with
    | inl e => rw [h1] at h; cases h
    | inr r =>
      obtain ⟨v, q1⟩ := r
      have b3 := lk_bd b2 h1
      rw [h1] at h
      rcases lk_v h1 with rfl | rfl | ⟨-, y⟩
      · have b4 := lk_lt b2 (by decide) h1
        dsimp only at h
        rw [if_pos rfl] at h
        cases h
        exact ⟨by omega, by omega, by omega, by omega, by omega, by omega, fun y => by cases y⟩
      · have b4 := lk_lt b2 (by decide) h1
        dsimp only at h
        rw [if_neg (by decide)] at h
        split at h
        · next h7 => cases h; exact ⟨by omega, by omega, by omega, by omega, by omega, by omega, fun _ => ⟨rfl, h7⟩⟩
        · cases h2 : bdM t n dg mp ml k q1 (xs ++ [nI k] ++ [nI 0]) ys with
          | inl e => rw [h2] at h; cases h
          | inr r =>
            obtain ⟨q2, c, xs2, ys2⟩ := r
            rw [h2] at h
            have b5 := bd_bd b3.2 (by rw [hl]; omega) hy h2
            rw [hl] at b5
            cases h
            rw [List.length_set]
            exact ⟨by omega, by omega, by omega, by omega, by omega, by omega, fun y => by cases y⟩
      · cases y
  · cases h
theorem sh_bd {w : Nat} {b : Bool} (hp : p ≤ n) (hx : xs.length ≤ ml) (hy : ys.length ≤ mp) (h : shM t n dg mp ml d p xs ys = .inr (b, q, w, xs', ys')) : p < q ∧ q ≤ n ∧ xs.length + 2 ≤ xs'.length ∧ xs'.length ≤ ml ∧ ys.length ≤ ys'.length ∧ ys'.length ≤ mp ∧ (b = true → w = xs.length + 1 ∧ d < 50) := by
  have b1 := rn_ge (P := blN) (t := t) hp
  have b2 := rn_le (P := blN) (t := t) hp
  have b3 := rn_ge (P := leN) (t := t) b2
  have b4 := rn_le (P := leN) (t := t) b2
  unfold shM at h
  cases h1 : kdM t n d (rn blN t n p) with
  | inl e => rw [h1] at h; cases h
  | inr k =>
    rw [h1] at h
    have b5 := shB_bd b4 hx hy h
    have b6 := kd_le h1
    exact ⟨by omega, b5.2.1, b5.2.2.1, b5.2.2.2.1, b5.2.2.2.2.1, b5.2.2.2.2.2.1, fun y => ⟨(b5.2.2.2.2.2.2 y).1, b6.2.2.1 (b5.2.2.2.2.2.2 y).2⟩⟩
end MSm
/-- behind a shape -/
def raC (t : Nat → Nat) (n dg mp ml F : Nat) (oa : Nat → Int32) (ys : List (Int32 × Int32)) : (Nat × Nat) ⊕ (Bool × Nat × Nat × List Int32 × (Nat → Int32)) → (Nat × Nat) ⊕ (Nat × List Int32 × List (Int32 × Int32))
  | .inl e => .inl e
  | .inr (true, d', q2, xs2, oc2) => raM t n dg mp ml F d' q2 xs2 ys oa oc2
  | .inr (false, _, q2, xs2, _) => .inr (q2, xs2, ys)
theorem ra_s (t : Nat → Nat) (n dg mp ml F d p : Nat) (xs : List Int32) (ys : List (Int32 × Int32)) (oa oc : Nat → Int32) : raM t n dg mp ml (F + 1) d p xs ys oa oc = match shM t n dg mp ml d p xs ys with
    | .inl e => .inl e
    | .inr (true, q, w, xs', ys') => raM t n dg mp ml F (d + 1) q xs' ys' (upd oa d (nI w)) (upd oc d (nI 0))
    | .inr (false, q, _, xs', ys') => raC t n dg mp ml F oa ys' (clM t n oa d q xs' oc) := by
  simp only [raM]
  cases h : shM t n dg mp ml d p xs ys with
  | inl e => rfl
  | inr r =>
    obtain ⟨b, q, w, xs', ys'⟩ := r
    cases b with
    | true => rfl
    | false =>
      dsimp only
      cases clM t n oa d q xs' oc with
      | inl e => rfl
      | inr r => obtain ⟨b, d', q2, xs2, oc2⟩ := r; cases b <;> rfl
theorem cl_s (t : Nat → Nat) (n : Nat) (oa : Nat → Int32) (d p : Nat) (xs : List Int32) (oc : Nat → Int32) : clM t n oa (d + 1) p xs oc = match goM t n p with
    | .inl e => .inl e
    | .inr (true, q) => .inr (true, d + 1, q, xs, upd oc d (oc d + nI 1))
    | .inr (false, q) => clM t n oa d q (xs.set (oa d).toNatClampNeg (oc d + nI 1)) (upd oc d (oc d + nI 1)) := rfl
