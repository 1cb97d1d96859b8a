/-! both states side by side -/
/-- a slot: none, or what was read -/
def SlO (ml mp k c : Nat) (f o : Nat → Int32) : Prop := (k = 0 ∧ c = 0) ∨ ∃ xs ys, It 0 0 1 xs ys ∧ k = xs.length ∧ c = ys.length ∧ xs.length ≤ ml ∧ ys.length ≤ mp ∧ (∀ i, i < xs.length → f i = xs.getD i 0) ∧ ∀ i, i < 2 * ys.length → o i = pr2 ys i
theorem SlO_le {ml mp k c : Nat} {f o : Nat → Int32} (h : SlO ml mp k c f o) : k ≤ ml ∧ c ≤ mp := by
  rcases h with ⟨rfl, rfl⟩ | ⟨xs, ys, -, rfl, rfl, h1, h2, -⟩
  · exact ⟨Nat.zero_le _, Nat.zero_le _⟩
  · exact ⟨h1, h2⟩
def RelW (G : gl) (bx bm th : Nat) (w1 w2 : va_W) : Prop := ∃ (h u : Nat → Nat) (dg mp ml tl : Nat) (sk sc : Nat → Nat) (sf so : Nat → Nat → Int32) (n p fk fp : Nat) (t : Nat → Nat) (k c : Nat) (f o : Nat → Int32) (bt : Nat) (bk bn : Nat → Int32) (ln : Nat) (ks : Bool) (la nx py : Nat) (fi : Bool) (rb : Nat → Nat) (de : Nat → Int32) (wt : Nat) (wk wn : Nat → Int32) (pl xy : Nat → Int32) (ou : Nat → Nat) (wr sl q : Nat) (va : Int32) (oa oc ok : Nat → Int32),
  w1 = wW G h ml (2 * mp) dg tl sk sc sf so n p fk fp t k c f o bt bk bn ln ks la nx py fi rb de wt wk wn ∧ w2 = wM G u dg mp ml th tl t pl sk xy sc ln rb ou wr sl q fk fp va oa oc ok ∧ (h 0 = bx ∧ u 0 = bm) ∧ (dg ≤ 3 ∧ 1 ≤ mp ∧ mp ≤ 4096 ∧ 2 ≤ ml ∧ ml ≤ 4096 ∧ tl ≤ 65536 ∧ ln ≤ 131072) ∧ ((∀ i, t i < 256) ∧ ∀ i, rb i < 256) ∧ (∀ j, SlO ml mp (sk j) (sc j) (sf j) (so j)) ∧ ∀ j, j < 4 → (∀ i, i < sk j → sf j i = pl (4096 * j + i)) ∧ ∀ i, i < 2 * sc j → so j i = xy (8192 * j + i)
/-- a method of the class and the reference's: the same answer, or the throw that the reference tells, and both states side by side again -/
def Jn (l : Launch) (G : gl) (bx bm : Nat) (yW : MethodName) (kW : ByteArray) (mW : Nat) (rW : Option FieldType) (frW loW : Nat) (yM : MethodName) (kM : ByteArray) (mM : Nat) (rM : Option FieldType) (frM loM : Nat) (as : List Value) (Es : List String) (w1 w2 : va_W) : Prop :=
  ∃ (post : Option Value → va_W → Prop) (px : String → va_W → Prop) (postM : Option Value → va_W → Prop), YC l G yW kW mW rW frW loW (.ref bx :: as) w1 post px ∧ YC l G yM kM mM rM frM loM (.ref bm :: as) w2 postM (fun _ _ => False) ∧ (∀ v w, post v w → ∃ x, v = some (.int x)) ∧ (∀ E w, px E w → E ∈ Es) ∧ (∀ v w, postM v w → ∃ x, v = some (.int x)) ∧ (∀ x w1' y w2', post (some (.int x)) w1' → postM (some (.int y)) w2' → x = y ∧ RelW G bx bm 0 w1' w2') ∧ ∀ E w1' y w2', px E w1' → postM (some (.int y)) w2' → ∃ k, xcN Es E = nI k ∧ RelW G bx bm k w1' w2'
theorem nIj {a b : Nat} (ha : a < 2 ^ 31) (hb : b < 2 ^ 31) (h : nI a = nI b) : a = b := (nI_eq ha hb).mp h
theorem in_no {x : Int32} {m : Nat} (hm : m < 2 ^ 31) (h : x < 0 ∨ ¬ x ≤ nI m) : ¬ ∃ j, j ≤ m ∧ x = nI j := by
  rintro ⟨j, h1, rfl⟩
  rcases h with h | h
  · exact nI_pos (by omega) h
  · exact h (nI_le h1 hm)
theorem ix_no {x : Int32} {c : Nat} (hc : c < 2 ^ 31) (h : x < 0 ∨ nI c ≤ x) : ¬ ∃ j, j < c ∧ x = nI j := by
  rintro ⟨j, h1, rfl⟩
  rcases h with h | h
  · exact nI_pos (by omega) h
  · exact nI_ge h1 hc h
theorem sgT_lt (x : Int32) : ∀ z ∈ sgT x, z < 256 := by
  unfold sgT
  split
  · intro z hz; rw [List.mem_singleton] at hz; omega
  · intro z hz; cases hz
theorem ndL_lt (a dg lo : Nat) : ∀ i, ∀ z ∈ ndL a dg lo i, z < 256
  | 0, z, hz => by cases hz
  | i + 1, z, hz => by
    unfold ndL at hz
    split at hz
    · cases hz
    · rcases List.mem_append.mp hz with h | h
      · rcases List.mem_append.mp h with h | h
        · split at h
          · rw [List.mem_singleton] at h; omega
          · cases h
        · rw [List.mem_singleton] at h
          have := Nat.mod_lt (a / 10 ^ i) (show 0 < 10 by decide)
          omega
      · exact ndL_lt a dg lo i z h
theorem nmX_lt (dg : Nat) (x : Int32) : ∀ z ∈ nmX dg x, z < 256 := by
  intro z hz
  rcases List.mem_append.mp hz with h | h
  · exact sgT_lt x z h
  · exact ndL_lt _ _ _ _ z h
theorem wdL_lt (k : Nat) : ∀ z ∈ wdL k, z < 256 := by
  intro z hz
  obtain ⟨j, hj⟩ := List.getElem?_of_mem hz
  have h1 : wdC k j = z := by unfold wdC; rw [List.getD_eq_getElem?_getD, hj]; rfl
  have := wdC_lt k j
  omega
theorem bl_app {a b : List Nat} (h1 : ∀ z ∈ a, z < 256) (h2 : ∀ z ∈ b, z < 256) : ∀ z ∈ a ++ b, z < 256 := fun z hz => (List.mem_append.mp hz).elim (h1 z) (h2 z)
theorem bl_1 {c : Nat} (h : c < 256) : ∀ z ∈ [c], z < 256 := fun z hz => by rw [List.mem_singleton] at hz; omega
theorem preT_lt (fi : Bool) : ∀ z ∈ preT fi, z < 256 := by
  cases fi
  · intro z hz
    have : z = 44 ∨ z = 32 := by simpa [preT] using hz
    omega
  · intro z hz; cases hz
theorem bdW_lt {kd x : Int32} {ou : List Nat} {nx py bt : Nat} {bk bn : Nat → Int32} (h : ∀ z ∈ ou, z < 256) : ∀ z ∈ (bdW kd x ou nx py bt bk bn).1, z < 256 := by
  unfold bdW
  refine bl_app h ?_
  split
  · exact wdL_lt 8
  · exact bl_1 (by decide)
theorem wSp_lt {dg : Nat} {f o : Nat → Int32} {σ : wSt} (h : ∀ z ∈ σ.1, z < 256) : ∀ z ∈ (wSp dg f o σ).1, z < 256 := by
  unfold wSp
  split
  · unfold wIt
    split
    · exact bdW_lt (bl_app (bl_app (bl_app h (preT_lt _)) (wdL_lt _)) (bl_1 (by decide)))
    · split
      · exact bdW_lt (bl_app h (preT_lt _))
      · split
        · exact bdW_lt (bl_app h (preT_lt _))
        · exact bl_app (bl_app h (preT_lt _)) (bl_app (nmX_lt _ _) (bl_app (bl_1 (by decide)) (nmX_lt _ _)))
  · exact bl_app h (bl_1 (by decide))
theorem wRm_lt {dg k c : Nat} {f o : Nat → Int32} : ∀ (m : Nat) (σ τ : wSt), wRm dg k f c o m σ τ → (∀ z ∈ σ.1, z < 256) → ∀ z ∈ τ.1, z < 256
  | 0, σ, τ, h, h1 => by rw [h.2]; exact h1
  | m + 1, σ, τ, h, h1 => by
    rcases h with h | ⟨-, -, h⟩
    · rw [h.2]; exact h1
    · exact wRm_lt m _ τ h (wSp_lt h1)
theorem wrB_lt {rb : Nat → Nat} {L : List Nat} (h : ∀ i, rb i < 256) (h1 : ∀ z ∈ L, z < 256) : ∀ i, wrB rb L i < 256 := by
  intro i
  unfold wrB
  split
  · next h2 =>
    rw [List.getD_eq_getElem?_getD, List.getElem?_eq_getElem h2.1]
    exact h1 _ (List.getElem_mem h2.1)
  · exact h i
theorem cpT_lt {f g : Nat → Nat} {m : Nat} (hf : ∀ i, f i < 256) (hg : ∀ i, g i < 256) : ∀ i, cpT f g m i < 256 := by
  intro i
  unfold cpT
  split
  · exact hf i
  · exact hg i
/-- the text of a slot's shape -/
theorem sl_tx {ml mp dg k c : Nat} {f o : Nat → Int32} (h : SlO ml mp k c f o) : ∃ tx : List Nat, ¬ k = 0 → (∀ z ∈ tx, z < 256) ∧ ∀ (f1 o1 bk bn : Nat → Int32), (∀ i, i < k → f i = f1 i) → (∀ i, i < 2 * c → o i = o1 i) → ∃ nx9 py9 fi9 bt9 bk9 bn9, wRm dg k f1 c o1 (2 * k + c) ([], 0, 0, true, 0, upd bk 0 (nI 0), upd bn 0 (nI 1)) (tx, nx9, py9, fi9, bt9, bk9, bn9) := by
  rcases h with ⟨h1, -⟩ | ⟨xs, ys, hi, rfl, rfl, -, -, h1, h2⟩
  · exact ⟨[], fun y => absurd h1 y⟩
  · obtain ⟨tx, ht⟩ := pl_wr dg hi
    have hp : ∀ (o1 : Nat → Int32), (∀ i, i < 2 * ys.length → o i = o1 i) → ∀ i, i < ys.length → o1 (2 * i) = (ys.getD i (0, 0)).1 ∧ o1 (2 * i + 1) = (ys.getD i (0, 0)).2 := by
      intro o1 ho i hi
      refine ⟨?_, ?_⟩
      · rw [← ho _ (by omega), h2 _ (by omega)]
        unfold pr2
        rw [if_pos (by omega), show 2 * i / 2 = i by omega]
      · rw [← ho _ (by omega), h2 _ (by omega)]
        unfold pr2
        rw [if_neg (by omega), show (2 * i + 1) / 2 = i by omega]
    refine ⟨tx, fun _ => ⟨?_, fun f1 o1 bk bn hf ho => ht f1 o1 bk bn (fun i hi => (hf i hi).symm.trans (h1 i hi)) (hp o1 ho)⟩⟩
    obtain ⟨a1, a2, a3, a4, a5, a6, a7⟩ := ht f o (fun _ => 0) (fun _ => 0) h1 (hp o (fun _ _ => rfl))
    exact wRm_lt _ _ _ a7 (fun z hz => by cases hz)

set_option maxHeartbeats 4000000 in
theorem j_feed {l : Launch} (hlt : l.stackTraces = false) {G : gl} {bx bm th : Nat} {w1 w2 : va_W} (a1 : Int32) (a2 : Int32) (a3 : Int32) (a4 : Int32) (a5 : Int32) (hR : RelW G bx bm th w1 w2) : Jn l G bx bm y_W_feed k_W_feed 6 (Option.some FieldType.int) 6 90 y_M_feed k_M_feed 8 (Option.some FieldType.int) 1 21 [.int a1, .int a2, .int a3, .int a4, .int a5] ["java/lang/IllegalStateException"] w1 w2 := by
  obtain ⟨h, u, dg, mp, ml, tl, sk, sc, sf, so, n, p, fk, fp, t, k, c, f, o, bt, bk, bn, ln, ks, la, nx, py, fi, rb, de, wt, wk, wn, pl, xy, ou, wr, sl, q, va, oa, oc, ok, rfl, rfl, ⟨rfl, rfl⟩, ⟨hdg, hmp1, hmp, hml2, hml, htl, hln⟩, ⟨ht, hrb⟩, hsl, hrel⟩ := hR
  have hsk : ∀ j, sk j ≤ ml := fun j => (SlO_le (hsl j)).1
  have hsc : ∀ j, sc j ≤ mp := fun j => (SlO_le (hsl j)).2
  refine ⟨_, _, _, c_W_feed hlt G h ml (2 * mp) dg tl sk sc sf so n p fk fp t k c f o bt bk bn ln ks la nx py fi rb de wt wk wn a1 a2 a3 a4 a5 htl, c_M_feed l G u dg mp ml th tl t pl sk xy sc ln rb ou wr sl q fk fp va oa oc ok a1 a2 a3 a4 a5 htl, ?_, ?_, ?_, ?_, ?_⟩
  · rintro v w ⟨_, rfl, _⟩; exact ⟨_, rfl⟩
  · rintro E w ⟨_, rfl, _⟩; simp
  · rintro v w (⟨_, rfl, _⟩ | ⟨_, rfl, _⟩) <;> exact ⟨_, rfl⟩
  · rintro x w1' y w2' ⟨h1, hv, rfl⟩ (⟨h2, hv2, rfl⟩ | ⟨h2, hv2, rfl⟩)
    · omega
    · cases hv; cases hv2
      rw [fdk_20]; exact ⟨rfl, ⟨_, _, _, _, _, _, _, _, _, _, _, _, _, _, _, _, _, _, _, _, _, _, _, _, _, _, _, _, _, _, _, _, _, _, _, _, _, _, _, _, _, _, _, rfl, rfl, ⟨rfl, rfl⟩, ⟨hdg, hmp1, hmp, hml2, hml, h1, hln⟩, ⟨fdk_lt (n := tl) (a := a1) (b := a2) (c := a3) (d := a4) (e := a5) ht 20, hrb⟩, hsl, hrel⟩⟩
  · rintro E w1' y w2' ⟨h1, rfl, rfl⟩ (⟨h2, hv2, rfl⟩ | ⟨h2, hv2, rfl⟩)
    · exact ⟨1, by decide, ⟨_, _, _, _, _, _, _, _, _, _, _, _, _, _, _, _, _, _, _, _, _, _, _, _, _, _, _, _, _, _, _, _, _, _, _, _, _, _, _, _, _, _, _, rfl, rfl, ⟨rfl, rfl⟩, ⟨hdg, hmp1, hmp, hml2, hml, htl, hln⟩, ⟨ht, hrb⟩, hsl, hrel⟩⟩
    · omega
set_option maxHeartbeats 4000000 in
theorem j_end {l : Launch} (hlt : l.stackTraces = false) {G : gl} {bx bm th : Nat} {w1 w2 : va_W} (x : Int32) (hR : RelW G bx bm th w1 w2) : Jn l G bx bm y_W_end k_W_end 2 (Option.some FieldType.int) 6 90 y_M_end k_M_end 2 (Option.some FieldType.int) 1 22 [.int x] ["java/lang/IllegalArgumentException", "java/lang/IllegalStateException"] w1 w2 := by
  obtain ⟨h, u, dg, mp, ml, tl, sk, sc, sf, so, n, p, fk, fp, t, k, c, f, o, bt, bk, bn, ln, ks, la, nx, py, fi, rb, de, wt, wk, wn, pl, xy, ou, wr, sl, q, va, oa, oc, ok, rfl, rfl, ⟨rfl, rfl⟩, ⟨hdg, hmp1, hmp, hml2, hml, htl, hln⟩, ⟨ht, hrb⟩, hsl, hrel⟩ := hR
  have hsk : ∀ j, sk j ≤ ml := fun j => (SlO_le (hsl j)).1
  have hsc : ∀ j, sc j ≤ mp := fun j => (SlO_le (hsl j)).2
  refine ⟨_, _, _, c_W_end hlt G h ml (2 * mp) dg tl sk sc sf so n p fk fp t k c f o bt bk bn ln ks la nx py fi rb de wt wk wn x htl, c_M_end l G u dg mp ml th tl t pl sk xy sc ln rb ou wr sl q fk fp va oa oc ok x htl, ?_, ?_, ?_, ?_, ?_⟩
  · rintro v w ⟨j, _, _, _, rfl, _⟩; exact ⟨_, rfl⟩
  · rintro E w ⟨⟨_, rfl⟩ | ⟨_, _, rfl⟩, _⟩ <;> simp
  · rintro v w (⟨_, rfl, _⟩ | ⟨_, rfl, _⟩ | ⟨_, _, rfl, _⟩) <;> exact ⟨_, rfl⟩
  · rintro x' w1' y w2' ⟨j, h1, h2, h3, hv, rfl⟩ (⟨h4, hv2, rfl⟩ | ⟨h4, hv2, rfl⟩ | ⟨j2, h4, hv2, rfl⟩)
    · exact absurd ⟨j, h1, h2⟩ h4
    · exact absurd h4.2 (by omega)
    · have e : j2 = j := nIj (by have := h4.1; omega) (by omega) (h4.2.1.symm.trans h2)
      subst e
      cases hv; cases hv2
      rw [show tl - (20 - j2) = tl - 20 + j2 by omega]
      exact ⟨rfl, ⟨_, _, _, _, _, _, _, _, _, _, _, _, _, _, _, _, _, _, _, _, _, _, _, _, _, _, _, _, _, _, _, _, _, _, _, _, _, _, _, _, _, _, _, rfl, rfl, ⟨rfl, rfl⟩, ⟨hdg, hmp1, hmp, hml2, hml, by omega, hln⟩, ⟨ht, hrb⟩, hsl, hrel⟩⟩
  · rintro E w1' y w2' ⟨⟨h1, rfl⟩ | ⟨h1, h2, rfl⟩, rfl⟩ (⟨h4, hv2, rfl⟩ | ⟨h4, hv2, rfl⟩ | ⟨j2, h4, hv2, rfl⟩)
    · exact ⟨1, by decide, ⟨_, _, _, _, _, _, _, _, _, _, _, _, _, _, _, _, _, _, _, _, _, _, _, _, _, _, _, _, _, _, _, _, _, _, _, _, _, _, _, _, _, _, _, rfl, rfl, ⟨rfl, rfl⟩, ⟨hdg, hmp1, hmp, hml2, hml, htl, hln⟩, ⟨ht, hrb⟩, hsl, hrel⟩⟩
    · exact absurd h4.1 (in_no (by decide) h1)
    · exact absurd ⟨j2, h4.1, h4.2.1⟩ (in_no (by decide) h1)
    · exact absurd h1 h4
    · exact ⟨2, by decide, ⟨_, _, _, _, _, _, _, _, _, _, _, _, _, _, _, _, _, _, _, _, _, _, _, _, _, _, _, _, _, _, _, _, _, _, _, _, _, _, _, _, _, _, _, rfl, rfl, ⟨rfl, rfl⟩, ⟨hdg, hmp1, hmp, hml2, hml, htl, hln⟩, ⟨ht, hrb⟩, hsl, hrel⟩⟩
    · exact absurd h4.2.2 (by omega)
set_option maxHeartbeats 4000000 in
theorem j_fault {l : Launch} (hlt : l.stackTraces = false) {G : gl} {bx bm th : Nat} {w1 w2 : va_W} (x : Int32) (hR : RelW G bx bm th w1 w2) : Jn l G bx bm y_W_fault k_W_fault 2 (Option.some FieldType.int) 6 90 y_M_fault k_M_fault 2 (Option.some FieldType.int) 1 22 [.int x] ["java/lang/IndexOutOfBoundsException"] w1 w2 := by
  obtain ⟨h, u, dg, mp, ml, tl, sk, sc, sf, so, n, p, fk, fp, t, k, c, f, o, bt, bk, bn, ln, ks, la, nx, py, fi, rb, de, wt, wk, wn, pl, xy, ou, wr, sl, q, va, oa, oc, ok, rfl, rfl, ⟨rfl, rfl⟩, ⟨hdg, hmp1, hmp, hml2, hml, htl, hln⟩, ⟨ht, hrb⟩, hsl, hrel⟩ := hR
  have hsk : ∀ j, sk j ≤ ml := fun j => (SlO_le (hsl j)).1
  have hsc : ∀ j, sc j ≤ mp := fun j => (SlO_le (hsl j)).2
  refine ⟨_, _, _, c_W_fault hlt G h ml (2 * mp) dg tl sk sc sf so n p fk fp t k c f o bt bk bn ln ks la nx py fi rb de wt wk wn x, c_M_fault l G u dg mp ml th tl t pl sk xy sc ln rb ou wr sl q fk fp va oa oc ok x, ?_, ?_, ?_, ?_, ?_⟩
  · rintro v w ⟨_, rfl, _⟩; exact ⟨_, rfl⟩
  · rintro E w ⟨_, rfl, _⟩; simp
  · rintro v w (⟨_, rfl, _⟩ | ⟨_, rfl, _⟩ | ⟨_, rfl, _⟩) <;> exact ⟨_, rfl⟩
  · rintro x' w1' y w2' ⟨h1, hv, rfl⟩ (⟨h4, hv2, rfl⟩ | ⟨h4, hv2, rfl⟩ | ⟨h4, hv2, rfl⟩)
    · subst h4; cases hv; cases hv2; exact ⟨if_pos rfl, ⟨_, _, _, _, _, _, _, _, _, _, _, _, _, _, _, _, _, _, _, _, _, _, _, _, _, _, _, _, _, _, _, _, _, _, _, _, _, _, _, _, _, _, _, rfl, rfl, ⟨rfl, rfl⟩, ⟨hdg, hmp1, hmp, hml2, hml, htl, hln⟩, ⟨ht, hrb⟩, hsl, hrel⟩⟩
    · subst h4; cases hv; cases hv2; exact ⟨if_neg (by decide), ⟨_, _, _, _, _, _, _, _, _, _, _, _, _, _, _, _, _, _, _, _, _, _, _, _, _, _, _, _, _, _, _, _, _, _, _, _, _, _, _, _, _, _, _, rfl, rfl, ⟨rfl, rfl⟩, ⟨hdg, hmp1, hmp, hml2, hml, htl, hln⟩, ⟨ht, hrb⟩, hsl, hrel⟩⟩
    · exact absurd h1 h4
  · rintro E w1' y w2' ⟨h1, rfl, rfl⟩ (⟨h4, hv2, rfl⟩ | ⟨h4, hv2, rfl⟩ | ⟨h4, hv2, rfl⟩)
    · exact absurd (Or.inl h4) h1
    · exact absurd (Or.inr h4) h1
    · exact ⟨1, by decide, ⟨_, _, _, _, _, _, _, _, _, _, _, _, _, _, _, _, _, _, _, _, _, _, _, _, _, _, _, _, _, _, _, _, _, _, _, _, _, _, _, _, _, _, _, rfl, rfl, ⟨rfl, rfl⟩, ⟨hdg, hmp1, hmp, hml2, hml, htl, hln⟩, ⟨ht, hrb⟩, hsl, hrel⟩⟩
set_option maxHeartbeats 4000000 in
theorem j_again {l : Launch} (hlt : l.stackTraces = false) {G : gl} {bx bm th : Nat} {w1 w2 : va_W}  (hR : RelW G bx bm th w1 w2) : Jn l G bx bm y_W_again k_W_again 1 (Option.some FieldType.int) 1 40 y_M_again k_M_again 2 (Option.some FieldType.int) 0 0 [] [] w1 w2 := by
  obtain ⟨h, u, dg, mp, ml, tl, sk, sc, sf, so, n, p, fk, fp, t, k, c, f, o, bt, bk, bn, ln, ks, la, nx, py, fi, rb, de, wt, wk, wn, pl, xy, ou, wr, sl, q, va, oa, oc, ok, rfl, rfl, ⟨rfl, rfl⟩, ⟨hdg, hmp1, hmp, hml2, hml, htl, hln⟩, ⟨ht, hrb⟩, hsl, hrel⟩ := hR
  have hsk : ∀ j, sk j ≤ ml := fun j => (SlO_le (hsl j)).1
  have hsc : ∀ j, sc j ≤ mp := fun j => (SlO_le (hsl j)).2
  refine ⟨_, _, _, c_W_again l G h ml (2 * mp) dg tl sk sc sf so n p fk fp t k c f o bt bk bn ln ks la nx py fi rb de wt wk wn hln, c_M_again l G u dg mp ml th tl t pl sk xy sc ln rb ou wr sl q fk fp va oa oc ok hln, ?_, ?_, ?_, ?_, ?_⟩
  · rintro v w ⟨rfl, _⟩; exact ⟨_, rfl⟩
  · intro E w h; exact h.elim
  · rintro v w ⟨rfl, _⟩; exact ⟨_, rfl⟩
  · rintro x' w1' y w2' ⟨hv, rfl⟩ ⟨hv2, rfl⟩
    cases hv; cases hv2; exact ⟨rfl, ⟨_, _, _, _, _, _, _, _, _, _, _, _, _, _, _, _, _, _, _, _, _, _, _, _, _, _, _, _, _, _, _, _, _, _, _, _, _, _, _, _, _, _, _, rfl, rfl, ⟨rfl, rfl⟩, ⟨hdg, hmp1, hmp, hml2, hml, by omega, hln⟩, ⟨cpT_lt hrb ht, hrb⟩, hsl, hrel⟩⟩
  · intro E w1' y w2' h; exact h.elim
set_option maxHeartbeats 4000000 in
theorem j_plan {l : Launch} (hlt : l.stackTraces = false) {G : gl} {bx bm th : Nat} {w1 w2 : va_W} (s : Int32) (i : Int32) (hR : RelW G bx bm th w1 w2) : Jn l G bx bm y_W_plan k_W_plan 4 (Option.some FieldType.int) 7 111 y_M_plan k_M_plan 3 (Option.some FieldType.int) 2 42 [.int s, .int i] ["java/lang/IndexOutOfBoundsException"] w1 w2 := by
  obtain ⟨h, u, dg, mp, ml, tl, sk, sc, sf, so, n, p, fk, fp, t, k, c, f, o, bt, bk, bn, ln, ks, la, nx, py, fi, rb, de, wt, wk, wn, pl, xy, ou, wr, sl, q, va, oa, oc, ok, rfl, rfl, ⟨rfl, rfl⟩, ⟨hdg, hmp1, hmp, hml2, hml, htl, hln⟩, ⟨ht, hrb⟩, hsl, hrel⟩ := hR
  have hsk : ∀ j, sk j ≤ ml := fun j => (SlO_le (hsl j)).1
  have hsc : ∀ j, sc j ≤ mp := fun j => (SlO_le (hsl j)).2
  refine ⟨_, _, _, c_W_plan hlt G h ml (2 * mp) dg tl sk sc sf so n p fk fp t k c f o bt bk bn ln ks la nx py fi rb de wt wk wn s i hsk (fun j => by have := hsc j; omega) (by omega) (by omega), c_M_plan l G u dg mp ml th tl t pl sk xy sc ln rb ou wr sl q fk fp va oa oc ok s i (fun j => by have := hsk j; omega) (fun j => by have := hsc j; omega), ?_, ?_, ?_, ?_, ?_⟩
  · rintro v w ⟨j, q9, _, _, _, _, rfl, _⟩; exact ⟨_, rfl⟩
  · rintro E w ⟨_, rfl, _⟩; simp
  · rintro v w (⟨_, _, _, rfl, _⟩ | ⟨_, rfl, _⟩) <;> exact ⟨_, rfl⟩
  · rintro x' w1' y w2' ⟨j, q9, h1, h2, h3, h4, hv, rfl⟩ (⟨j2, q2, ⟨g1, g2, g3, g4⟩, hv2, rfl⟩ | ⟨g1, hv2, rfl⟩)
    · have := hsk j; have := hsk j2
      obtain rfl : j = j2 := nIj (by omega) (by omega) (h2.symm.trans g2)
      obtain rfl : q9 = q2 := nIj (by omega) (by omega) (h4.symm.trans g4)
      cases hv; cases hv2; exact ⟨(hrel j h1).1 q9 h3, ⟨_, _, _, _, _, _, _, _, _, _, _, _, _, _, _, _, _, _, _, _, _, _, _, _, _, _, _, _, _, _, _, _, _, _, _, _, _, _, _, _, _, _, _, rfl, rfl, ⟨rfl, rfl⟩, ⟨hdg, hmp1, hmp, hml2, hml, htl, hln⟩, ⟨ht, hrb⟩, hsl, hrel⟩⟩
    · exact absurd ⟨j, q9, h1, h2, h3, h4⟩ g1
  · rintro E w1' y w2' ⟨h1, rfl, rfl⟩ (⟨j2, q2, ⟨g1, g2, g3, g4⟩, hv2, rfl⟩ | ⟨g1, hv2, rfl⟩)
    · exfalso
      have := hsk j2
      rcases h1 with h1 | ⟨j, h1, h2, h3⟩
      · exact ix_no (by decide) h1 ⟨j2, g1, g2⟩
      · obtain rfl : j = j2 := nIj (by omega) (by omega) (h2.symm.trans g2)
        exact ix_no (by omega) h3 ⟨q2, g3, g4⟩
    · exact ⟨1, by decide, ⟨_, _, _, _, _, _, _, _, _, _, _, _, _, _, _, _, _, _, _, _, _, _, _, _, _, _, _, _, _, _, _, _, _, _, _, _, _, _, _, _, _, _, _, rfl, rfl, ⟨rfl, rfl⟩, ⟨hdg, hmp1, hmp, hml2, hml, htl, hln⟩, ⟨ht, hrb⟩, hsl, hrel⟩⟩
set_option maxHeartbeats 4000000 in
theorem j_ordinate {l : Launch} (hlt : l.stackTraces = false) {G : gl} {bx bm th : Nat} {w1 w2 : va_W} (s : Int32) (i : Int32) (x : Int32) (hR : RelW G bx bm th w1 w2) : Jn l G bx bm y_W_ordinate k_W_ordinate 5 (Option.some FieldType.int) 7 111 y_M_ordinate k_M_ordinate 4 (Option.some FieldType.int) 2 42 [.int s, .int i, .int x] ["java/lang/IndexOutOfBoundsException"] w1 w2 := by
  obtain ⟨h, u, dg, mp, ml, tl, sk, sc, sf, so, n, p, fk, fp, t, k, c, f, o, bt, bk, bn, ln, ks, la, nx, py, fi, rb, de, wt, wk, wn, pl, xy, ou, wr, sl, q, va, oa, oc, ok, rfl, rfl, ⟨rfl, rfl⟩, ⟨hdg, hmp1, hmp, hml2, hml, htl, hln⟩, ⟨ht, hrb⟩, hsl, hrel⟩ := hR
  have hsk : ∀ j, sk j ≤ ml := fun j => (SlO_le (hsl j)).1
  have hsc : ∀ j, sc j ≤ mp := fun j => (SlO_le (hsl j)).2
  refine ⟨_, _, _, c_W_ordinate hlt G h ml (2 * mp) dg tl sk sc sf so n p fk fp t k c f o bt bk bn ln ks la nx py fi rb de wt wk wn s i x hsk (fun j => by have := hsc j; omega) (by omega) (by omega), c_M_ordinate l G u dg mp ml th tl t pl sk xy sc ln rb ou wr sl q fk fp va oa oc ok s i x (fun j => by have := hsk j; omega) (fun j => by have := hsc j; omega), ?_, ?_, ?_, ?_, ?_⟩
  · rintro v w ⟨j, q9, z, _, _, _, _, _, _, rfl, _⟩; exact ⟨_, rfl⟩
  · rintro E w ⟨_, rfl, _⟩; simp
  · rintro v w (⟨_, _, _, _, rfl, _⟩ | ⟨_, rfl, _⟩) <;> exact ⟨_, rfl⟩
  · rintro x' w1' y w2' ⟨j, q9, z, h1, h2, h3, h4, h5, h6, hv, rfl⟩ (⟨j2, q2, z2, ⟨g1, g2, g3, g4, g5, g6⟩, hv2, rfl⟩ | ⟨g1, hv2, rfl⟩)
    · have := hsc j; have := hsc j2
      obtain rfl : j = j2 := nIj (by omega) (by omega) (h2.symm.trans g2)
      obtain rfl : q9 = q2 := nIj (by omega) (by omega) (h4.symm.trans g4)
      obtain rfl : z = z2 := nIj (by omega) (by omega) (h6.symm.trans g6)
      cases hv; cases hv2; exact ⟨(hrel j h1).2 (2 * q9 + z) (by omega), ⟨_, _, _, _, _, _, _, _, _, _, _, _, _, _, _, _, _, _, _, _, _, _, _, _, _, _, _, _, _, _, _, _, _, _, _, _, _, _, _, _, _, _, _, rfl, rfl, ⟨rfl, rfl⟩, ⟨hdg, hmp1, hmp, hml2, hml, htl, hln⟩, ⟨ht, hrb⟩, hsl, hrel⟩⟩
    · exact absurd ⟨j, q9, z, h1, h2, h3, h4, h5, h6⟩ g1
  · rintro E w1' y w2' ⟨h1, rfl, rfl⟩ (⟨j2, q2, z2, ⟨g1, g2, g3, g4, g5, g6⟩, hv2, rfl⟩ | ⟨g1, hv2, rfl⟩)
    · exfalso
      have := hsc j2
      rcases h1 with h1 | ⟨j, h1, h2, h3⟩
      · exact ix_no (by decide) h1 ⟨j2, g1, g2⟩
      · obtain rfl : j = j2 := nIj (by omega) (by omega) (h2.symm.trans g2)
        rcases h3 with h3 | h3 | h3 | h3
        · exact ix_no (c := sc j) (by omega) (Or.inl h3) ⟨q2, g3, g4⟩
        · exact ix_no (by omega) (Or.inr h3) ⟨q2, g3, g4⟩
        · exact in_no (m := 1) (by decide) (Or.inl h3) ⟨z2, g5, g6⟩
        · exact in_no (by decide) (Or.inr h3) ⟨z2, g5, g6⟩
    · exact ⟨1, by decide, ⟨_, _, _, _, _, _, _, _, _, _, _, _, _, _, _, _, _, _, _, _, _, _, _, _, _, _, _, _, _, _, _, _, _, _, _, _, _, _, _, _, _, _, _, rfl, rfl, ⟨rfl, rfl⟩, ⟨hdg, hmp1, hmp, hml2, hml, htl, hln⟩, ⟨ht, hrb⟩, hsl, hrel⟩⟩
set_option maxHeartbeats 4000000 in
theorem j_byteAt {l : Launch} (hlt : l.stackTraces = false) {G : gl} {bx bm th : Nat} {w1 w2 : va_W} (i : Int32) (hR : RelW G bx bm th w1 w2) : Jn l G bx bm y_W_byteAt k_W_byteAt 2 (Option.some FieldType.int) 6 90 y_M_byteAt k_M_byteAt 2 (Option.some FieldType.int) 1 22 [.int i] ["java/lang/IndexOutOfBoundsException"] w1 w2 := by
  obtain ⟨h, u, dg, mp, ml, tl, sk, sc, sf, so, n, p, fk, fp, t, k, c, f, o, bt, bk, bn, ln, ks, la, nx, py, fi, rb, de, wt, wk, wn, pl, xy, ou, wr, sl, q, va, oa, oc, ok, rfl, rfl, ⟨rfl, rfl⟩, ⟨hdg, hmp1, hmp, hml2, hml, htl, hln⟩, ⟨ht, hrb⟩, hsl, hrel⟩ := hR
  have hsk : ∀ j, sk j ≤ ml := fun j => (SlO_le (hsl j)).1
  have hsc : ∀ j, sc j ≤ mp := fun j => (SlO_le (hsl j)).2
  refine ⟨_, _, _, c_W_byteAt hlt G h ml (2 * mp) dg tl sk sc sf so n p fk fp t k c f o bt bk bn ln ks la nx py fi rb de wt wk wn i hln hrb, c_M_byteAt l G u dg mp ml th tl t pl sk xy sc ln rb ou wr sl q fk fp va oa oc ok i hln, ?_, ?_, ?_, ?_, ?_⟩
  · rintro v w ⟨j, _, _, rfl, _⟩; exact ⟨_, rfl⟩
  · rintro E w ⟨_, rfl, _⟩; simp
  · rintro v w (⟨_, _, rfl, _⟩ | ⟨_, rfl, _⟩) <;> exact ⟨_, rfl⟩
  · rintro x' w1' y w2' ⟨j, h1, h2, hv, rfl⟩ (⟨j2, ⟨g1, g2⟩, hv2, rfl⟩ | ⟨g1, hv2, rfl⟩)
    · obtain rfl : j = j2 := nIj (by omega) (by omega) (h2.symm.trans g2)
      cases hv; cases hv2; exact ⟨rfl, ⟨_, _, _, _, _, _, _, _, _, _, _, _, _, _, _, _, _, _, _, _, _, _, _, _, _, _, _, _, _, _, _, _, _, _, _, _, _, _, _, _, _, _, _, rfl, rfl, ⟨rfl, rfl⟩, ⟨hdg, hmp1, hmp, hml2, hml, htl, hln⟩, ⟨ht, hrb⟩, hsl, hrel⟩⟩
    · exact absurd ⟨j, h1, h2⟩ g1
  · rintro E w1' y w2' ⟨h1, rfl, rfl⟩ (⟨j2, ⟨g1, g2⟩, hv2, rfl⟩ | ⟨g1, hv2, rfl⟩)
    · exact absurd ⟨j2, g1, g2⟩ (ix_no (by omega) h1)
    · exact ⟨1, by decide, ⟨_, _, _, _, _, _, _, _, _, _, _, _, _, _, _, _, _, _, _, _, _, _, _, _, _, _, _, _, _, _, _, _, _, _, _, _, _, _, _, _, _, _, _, rfl, rfl, ⟨rfl, rfl⟩, ⟨hdg, hmp1, hmp, hml2, hml, htl, hln⟩, ⟨ht, hrb⟩, hsl, hrel⟩⟩
set_option maxHeartbeats 4000000 in
theorem j_count {l : Launch} (hlt : l.stackTraces = false) {G : gl} {bx bm th : Nat} {w1 w2 : va_W} (s : Int32) (x : Int32) (hR : RelW G bx bm th w1 w2) : Jn l G bx bm y_W_count k_W_count 4 (Option.some FieldType.int) 7 111 y_M_count k_M_count 3 (Option.some FieldType.int) 2 42 [.int s, .int x] ["java/lang/IndexOutOfBoundsException"] w1 w2 := by
  obtain ⟨h, u, dg, mp, ml, tl, sk, sc, sf, so, n, p, fk, fp, t, k, c, f, o, bt, bk, bn, ln, ks, la, nx, py, fi, rb, de, wt, wk, wn, pl, xy, ou, wr, sl, q, va, oa, oc, ok, rfl, rfl, ⟨rfl, rfl⟩, ⟨hdg, hmp1, hmp, hml2, hml, htl, hln⟩, ⟨ht, hrb⟩, hsl, hrel⟩ := hR
  have hsk : ∀ j, sk j ≤ ml := fun j => (SlO_le (hsl j)).1
  have hsc : ∀ j, sc j ≤ mp := fun j => (SlO_le (hsl j)).2
  refine ⟨_, _, _, c_W_count hlt G h ml (2 * mp) dg tl sk sc sf so n p fk fp t k c f o bt bk bn ln ks la nx py fi rb de wt wk wn s x, c_M_count l G u dg mp ml th tl t pl sk xy sc ln rb ou wr sl q fk fp va oa oc ok s x (fun j => by have := hsk j; omega) (fun j => by have := hsc j; omega), ?_, ?_, ?_, ?_, ?_⟩
  · rintro v w ⟨j, _, _, ⟨_, rfl⟩ | ⟨_, rfl⟩ | ⟨_, rfl⟩ | ⟨_, rfl⟩, _⟩ <;> exact ⟨_, rfl⟩
  · rintro E w ⟨_, rfl, _⟩; simp
  · rintro v w (⟨_, _, rfl, _⟩ | ⟨_, _, rfl, _⟩ | ⟨_, _, rfl, _⟩ | ⟨_, _, rfl, _⟩ | ⟨_, rfl, _⟩) <;> exact ⟨_, rfl⟩
  · rintro x' w1' y w2' ⟨j, h1, h2, h3, rfl⟩ (⟨j2, ⟨g1, g2, g3⟩, hv2, rfl⟩ | ⟨j2, ⟨g1, g2, g3⟩, hv2, rfl⟩ | ⟨j2, ⟨g1, g2, g3⟩, hv2, rfl⟩ | ⟨j2, ⟨g1, g2, g3⟩, hv2, rfl⟩ | ⟨g1, hv2, rfl⟩)
    · obtain rfl : j = j2 := nIj (by omega) (by omega) (h2.symm.trans g2)
      rcases h3 with ⟨h3, hv⟩ | ⟨h3, hv⟩ | ⟨h3, hv⟩ | ⟨h3, hv⟩
      · cases hv; cases hv2; exact ⟨rfl, ⟨_, _, _, _, _, _, _, _, _, _, _, _, _, _, _, _, _, _, _, _, _, _, _, _, _, _, _, _, _, _, _, _, _, _, _, _, _, _, _, _, _, _, _, rfl, rfl, ⟨rfl, rfl⟩, ⟨hdg, hmp1, hmp, hml2, hml, htl, hln⟩, ⟨ht, hrb⟩, hsl, hrel⟩⟩
      · exact absurd (h3.symm.trans g3) (by decide)
      · exact absurd (h3.symm.trans g3) (by decide)
      · exact absurd (h3.symm.trans g3) (by decide)
    · obtain rfl : j = j2 := nIj (by omega) (by omega) (h2.symm.trans g2)
      rcases h3 with ⟨h3, hv⟩ | ⟨h3, hv⟩ | ⟨h3, hv⟩ | ⟨h3, hv⟩
      · exact absurd (h3.symm.trans g3) (by decide)
      · cases hv; cases hv2; exact ⟨rfl, ⟨_, _, _, _, _, _, _, _, _, _, _, _, _, _, _, _, _, _, _, _, _, _, _, _, _, _, _, _, _, _, _, _, _, _, _, _, _, _, _, _, _, _, _, rfl, rfl, ⟨rfl, rfl⟩, ⟨hdg, hmp1, hmp, hml2, hml, htl, hln⟩, ⟨ht, hrb⟩, hsl, hrel⟩⟩
      · exact absurd (h3.symm.trans g3) (by decide)
      · exact absurd (h3.symm.trans g3) (by decide)
    · obtain rfl : j = j2 := nIj (by omega) (by omega) (h2.symm.trans g2)
      rcases h3 with ⟨h3, hv⟩ | ⟨h3, hv⟩ | ⟨h3, hv⟩ | ⟨h3, hv⟩
      · exact absurd (h3.symm.trans g3) (by decide)
      · exact absurd (h3.symm.trans g3) (by decide)
      · cases hv; cases hv2; exact ⟨rfl, ⟨_, _, _, _, _, _, _, _, _, _, _, _, _, _, _, _, _, _, _, _, _, _, _, _, _, _, _, _, _, _, _, _, _, _, _, _, _, _, _, _, _, _, _, rfl, rfl, ⟨rfl, rfl⟩, ⟨hdg, hmp1, hmp, hml2, hml, htl, hln⟩, ⟨ht, hrb⟩, hsl, hrel⟩⟩
      · exact absurd (h3.symm.trans g3) (by decide)
    · obtain rfl : j = j2 := nIj (by omega) (by omega) (h2.symm.trans g2)
      rcases h3 with ⟨h3, hv⟩ | ⟨h3, hv⟩ | ⟨h3, hv⟩ | ⟨h3, hv⟩
      · exact absurd (h3.symm.trans g3) (by decide)
      · exact absurd (h3.symm.trans g3) (by decide)
      · exact absurd (h3.symm.trans g3) (by decide)
      · cases hv; cases hv2; exact ⟨rfl, ⟨_, _, _, _, _, _, _, _, _, _, _, _, _, _, _, _, _, _, _, _, _, _, _, _, _, _, _, _, _, _, _, _, _, _, _, _, _, _, _, _, _, _, _, rfl, rfl, ⟨rfl, rfl⟩, ⟨hdg, hmp1, hmp, hml2, hml, htl, hln⟩, ⟨ht, hrb⟩, hsl, hrel⟩⟩
    · exact absurd (show (∃ j, j < 4 ∧ s = nI j) ∧ ∃ z, z ≤ 3 ∧ x = nI z from ⟨⟨j, h1, h2⟩, (by rcases h3 with ⟨h3, -⟩ | ⟨h3, -⟩ | ⟨h3, -⟩ | ⟨h3, -⟩ <;> exact ⟨_, by decide, h3⟩)⟩) g1
  · rintro E w1' y w2' ⟨h1, rfl, rfl⟩ (⟨j2, ⟨g1, g2, g3⟩, hv2, rfl⟩ | ⟨j2, ⟨g1, g2, g3⟩, hv2, rfl⟩ | ⟨j2, ⟨g1, g2, g3⟩, hv2, rfl⟩ | ⟨j2, ⟨g1, g2, g3⟩, hv2, rfl⟩ | ⟨g1, hv2, rfl⟩)
    · exfalso
      rcases h1 with h1 | h1
      · exact ix_no (by decide) h1 ⟨j2, g1, g2⟩
      · rw [g3, nI_toInt (by decide)] at h1; omega
    · exfalso
      rcases h1 with h1 | h1
      · exact ix_no (by decide) h1 ⟨j2, g1, g2⟩
      · rw [g3, nI_toInt (by decide)] at h1; omega
    · exfalso
      rcases h1 with h1 | h1
      · exact ix_no (by decide) h1 ⟨j2, g1, g2⟩
      · rw [g3, nI_toInt (by decide)] at h1; omega
    · exfalso
      rcases h1 with h1 | h1
      · exact ix_no (by decide) h1 ⟨j2, g1, g2⟩
      · rw [g3, nI_toInt (by decide)] at h1; omega
    · exact ⟨1, by decide, ⟨_, _, _, _, _, _, _, _, _, _, _, _, _, _, _, _, _, _, _, _, _, _, _, _, _, _, _, _, _, _, _, _, _, _, _, _, _, _, _, _, _, _, _, rfl, rfl, ⟨rfl, rfl⟩, ⟨hdg, hmp1, hmp, hml2, hml, htl, hln⟩, ⟨ht, hrb⟩, hsl, hrel⟩⟩
set_option maxHeartbeats 4000000 in
theorem j_same {l : Launch} (hlt : l.stackTraces = false) {G : gl} {bx bm th : Nat} {w1 w2 : va_W} (s : Int32) (r : Int32) (hR : RelW G bx bm th w1 w2) : Jn l G bx bm y_W_same k_W_same 5 (Option.some FieldType.boolean) 7 111 y_M_same k_M_same 5 (Option.some FieldType.boolean) 2 42 [.int s, .int r] ["java/lang/IndexOutOfBoundsException"] w1 w2 := by
  obtain ⟨h, u, dg, mp, ml, tl, sk, sc, sf, so, n, p, fk, fp, t, k, c, f, o, bt, bk, bn, ln, ks, la, nx, py, fi, rb, de, wt, wk, wn, pl, xy, ou, wr, sl, q, va, oa, oc, ok, rfl, rfl, ⟨rfl, rfl⟩, ⟨hdg, hmp1, hmp, hml2, hml, htl, hln⟩, ⟨ht, hrb⟩, hsl, hrel⟩ := hR
  have hsk : ∀ j, sk j ≤ ml := fun j => (SlO_le (hsl j)).1
  have hsc : ∀ j, sc j ≤ mp := fun j => (SlO_le (hsl j)).2
  refine ⟨_, _, _, c_W_same hlt G h ml (2 * mp) dg tl sk sc sf so n p fk fp t k c f o bt bk bn ln ks la nx py fi rb de wt wk wn s r hsk (fun j => by have := hsc j; omega) (by omega) (by omega), c_M_same l G u dg mp ml th tl t pl sk xy sc ln rb ou wr sl q fk fp va oa oc ok s r (fun j => by have := hsk j; omega) (fun j => by have := hsc j; omega), ?_, ?_, ?_, ?_, ?_⟩
  · rintro v w ⟨j, q9, _, _, _, _, rfl, _⟩; exact ⟨_, rfl⟩
  · rintro E w ⟨_, rfl, _⟩; simp
  · rintro v w (⟨_, rfl, _⟩ | ⟨_, _, _, rfl, _⟩) <;> exact ⟨_, rfl⟩
  · rintro x' w1' y w2' ⟨j, q9, h1, h2, h3, h4, hv, rfl⟩ (⟨g1, hv2, rfl⟩ | ⟨j2, q2, ⟨g1, g2, g3, g4⟩, hv2, rfl⟩)
    · exact absurd ⟨⟨j, h1, h2⟩, q9, h3, h4⟩ g1
    · obtain rfl : j = j2 := nIj (by omega) (by omega) (h2.symm.trans g2)
      obtain rfl : q9 = q2 := nIj (by omega) (by omega) (h4.symm.trans g4)
      cases hv; cases hv2
      refine ⟨congrArg bz (decide_eq_decide.mpr ⟨fun y => ⟨y.1, y.2.1, fun z hz => ?_, fun z hz => ?_⟩, fun y => ⟨y.1, y.2.1, fun z hz => ?_, fun z hz => ?_⟩⟩), ⟨_, _, _, _, _, _, _, _, _, _, _, _, _, _, _, _, _, _, _, _, _, _, _, _, _, _, _, _, _, _, _, _, _, _, _, _, _, _, _, _, _, _, _, rfl, rfl, ⟨rfl, rfl⟩, ⟨hdg, hmp1, hmp, hml2, hml, htl, hln⟩, ⟨ht, hrb⟩, hsl, hrel⟩⟩
      · rw [← (hrel j h1).1 z hz, ← (hrel q9 h3).1 z (by have := y.1; omega)]; exact y.2.2.1 z hz
      · rw [← (hrel j h1).2 z hz, ← (hrel q9 h3).2 z (by have := y.2.1; omega)]; exact y.2.2.2 z hz
      · rw [(hrel j h1).1 z hz, (hrel q9 h3).1 z (by have := y.1; omega)]; exact y.2.2.1 z hz
      · rw [(hrel j h1).2 z hz, (hrel q9 h3).2 z (by have := y.2.1; omega)]; exact y.2.2.2 z hz
  · rintro E w1' y w2' ⟨h1, rfl, rfl⟩ (⟨g1, hv2, rfl⟩ | ⟨j2, q2, ⟨g1, g2, g3, g4⟩, hv2, rfl⟩)
    · exact ⟨1, by decide, ⟨_, _, _, _, _, _, _, _, _, _, _, _, _, _, _, _, _, _, _, _, _, _, _, _, _, _, _, _, _, _, _, _, _, _, _, _, _, _, _, _, _, _, _, rfl, rfl, ⟨rfl, rfl⟩, ⟨hdg, hmp1, hmp, hml2, hml, htl, hln⟩, ⟨ht, hrb⟩, hsl, hrel⟩⟩
    · exfalso
      rcases h1 with h1 | h1
      · exact ix_no (by decide) h1 ⟨j2, g1, g2⟩
      · exact ix_no (by decide) h1 ⟨q2, g3, g4⟩
set_option maxHeartbeats 4000000 in
theorem j_read {l : Launch} (hlt : l.stackTraces = false) {G : gl} {bx bm th : Nat} {w1 w2 : va_W} (s : Int32) (hR : RelW G bx bm th w1 w2) : Jn l G bx bm y_W_read k_W_read 4 (Option.some FieldType.int) 12 232 y_M_read k_M_read 3 (Option.some FieldType.int) 12 279 [.int s] ["java/lang/IndexOutOfBoundsException", "java/lang/IllegalArgumentException"] w1 w2 := by
  obtain ⟨h, u, dg, mp, ml, tl, sk, sc, sf, so, n, p, fk, fp, t, k, c, f, o, bt, bk, bn, ln, ks, la, nx, py, fi, rb, de, wt, wk, wn, pl, xy, ou, wr, sl, q, va, oa, oc, ok, rfl, rfl, ⟨rfl, rfl⟩, ⟨hdg, hmp1, hmp, hml2, hml, htl, hln⟩, ⟨ht, hrb⟩, hsl, hrel⟩ := hR
  have hsk : ∀ j, sk j ≤ ml := fun j => (SlO_le (hsl j)).1
  have hsc : ∀ j, sc j ≤ mp := fun j => (SlO_le (hsl j)).2
  refine ⟨_, _, _, c_W_read hlt G h ml (2 * mp) dg tl sk sc sf so n p fk fp t k c f o bt bk bn ln ks la nx py fi rb de wt wk wn s htl ht hml hml2 (by omega) ⟨mp, rfl⟩, c_M_read l G u dg mp ml th tl t pl sk xy sc ln rb ou wr sl q fk fp va oa oc ok s htl ht hml hmp hdg, ?_, ?_, ?_, ?_, ?_⟩
  · rintro v w ⟨j, q9, k9, f9, c9, o9, u9, b9, d9, _, _, _, _, _, rfl, _⟩; exact ⟨_, rfl⟩
  · rintro E w (⟨_, rfl, _⟩ | ⟨_, _, _, _, _, _, _, _, _, _, _, _, _, _, rfl, _⟩) <;> simp
  · rintro v w (⟨_, rfl, _⟩ | ⟨_, _, _, _, _, _, _, _, rfl, _⟩ | ⟨_, _, _, _, _, _, _, _, _, _, rfl, _⟩) <;> exact ⟨_, rfl⟩
  · rintro x' w1' y w2' ⟨j, q9, k9, f9, c9, o9, u9, b9, d9, h1, h2, h3, h4, h5, hv, rfl⟩ (⟨g1, hv2, rfl⟩ | ⟨j2, q2, xs, ys, va9, oa9, oc9, ⟨g1, g2, g3⟩, hv2, rfl⟩ | ⟨j2, a2, b2, q2, xs, ys, va9, oa9, oc9, ⟨g1, g2, g3⟩, hv2, rfl⟩)
    · exact absurd ⟨j, h1, h2⟩ g1
    · obtain rfl : j = j2 := nIj (by omega) (by omega) (h2.symm.trans g2)
      have hs := sim_rd t tl dg mp ml hml f o bk bn oa oc
      rw [g3] at hs
      obtain ⟨f', o', e1, e2, e3⟩ := hs
      have hi := rd_it htl hml g3
      have hl2 := It_0len hi.1 rfl
      rw [e1] at h3
      cases h3
      cases hv; cases hv2
      rw [vu_u, vu_u]
      refine ⟨?_, ⟨_, _, _, _, _, _, _, _, _, _, _, _, _, _, _, _, _, _, _, _, _, _, _, _, _, _, _, _, _, _, _, _, _, _, _, _, _, _, _, _, _, _, _, rfl, rfl, ⟨rfl, rfl⟩, ⟨hdg, hmp1, hmp, hml2, hml, Nat.zero_le _, hln⟩, ⟨ht, hrb⟩, ?_, ?_⟩⟩
      · rw [if_pos (by omega)]; unfold tkF; rw [if_pos (by omega)]; exact e2 0 (by omega)
      · intro i
        by_cases y : i = j
        · subst y
          refine Or.inr ⟨xs, ys, hi.1, vu_s _ _ _, vu_s _ _ _, hi.2.1, hi.2.2, fun z hz => ?_, fun z hz => ?_⟩
          · rw [show va_up sf i (tkF (sf i) f9 xs.length) i = tkF (sf i) f9 xs.length from if_pos rfl]; unfold tkF; rw [if_pos hz]; exact e2 z hz
          · rw [show va_up so i (tkF (so i) o9 (2 * ys.length)) i = tkF (so i) o9 (2 * ys.length) from if_pos rfl]; unfold tkF; rw [if_pos hz]; exact e3 z hz
        · have a1 : va_up sk j xs.length i = sk i := if_neg y
          have a2 : va_up sc j ys.length i = sc i := if_neg y
          have a3 : va_up sf j (tkF (sf j) f9 xs.length) i = sf i := if_neg y
          have a4 : va_up so j (tkF (so j) o9 (2 * ys.length)) i = so i := if_neg y
          rw [a1, a2, a3, a4]; exact hsl i
      · intro i hi4
        by_cases y : i = j
        · subst y
          rw [show va_up sk i xs.length i = xs.length from if_pos rfl, show va_up sc i ys.length i = ys.length from if_pos rfl, show va_up sf i (tkF (sf i) f9 xs.length) i = tkF (sf i) f9 xs.length from if_pos rfl, show va_up so i (tkF (so i) o9 (2 * ys.length)) i = tkF (so i) o9 (2 * ys.length) from if_pos rfl]
          refine ⟨fun z hz => ?_, fun z hz => ?_⟩
          · rw [plR_at hz (by have := hi.2.1; omega)]; unfold tkF; rw [if_pos hz]; exact e2 z hz
          · rw [xyR_at hz (by have := hi.2.2; omega)]; unfold tkF; rw [if_pos hz]; exact e3 z hz
        · have a1 : va_up sk j xs.length i = sk i := if_neg y
          have a2 : va_up sc j ys.length i = sc i := if_neg y
          have a3 : va_up sf j (tkF (sf j) f9 xs.length) i = sf i := if_neg y
          have a4 : va_up so j (tkF (so j) o9 (2 * ys.length)) i = so i := if_neg y
          rw [a1, a2, a3, a4]
          exact ⟨fun z hz => by rw [plR_o y (by have := hsk i; omega)]; exact (hrel i hi4).1 z hz, fun z hz => by rw [xyR_o y (by have := hsc i; omega)]; exact (hrel i hi4).2 z hz⟩
    · exfalso
      have hs := sim_rd t tl dg mp ml hml f o bk bn oa oc
      rw [g3] at hs
      rw [show rdT t tl dg ml (2 * mp) f o bk bn = .inl (a2, b2) from hs] at h3
      cases h3
  · rintro E w1' y w2' (⟨h1, rfl, rfl⟩ | ⟨j, a, b, q9, k2, f2, c2, o2, u2, b3, d2, h1, h2, h3, rfl, rfl⟩) (⟨g1, hv2, rfl⟩ | ⟨j2, q2, xs, ys, va9, oa9, oc9, ⟨g1, g2, g3⟩, hv2, rfl⟩ | ⟨j2, a2, b2, q2, xs, ys, va9, oa9, oc9, ⟨g1, g2, g3⟩, hv2, rfl⟩)
    · exact ⟨1, by decide, ⟨_, _, _, _, _, _, _, _, _, _, _, _, _, _, _, _, _, _, _, _, _, _, _, _, _, _, _, _, _, _, _, _, _, _, _, _, _, _, _, _, _, _, _, rfl, rfl, ⟨rfl, rfl⟩, ⟨hdg, hmp1, hmp, hml2, hml, Nat.zero_le _, hln⟩, ⟨ht, hrb⟩, hsl, hrel⟩⟩
    · exact absurd ⟨j2, g1, g2⟩ (ix_no (by decide) h1)
    · exact absurd ⟨j2, g1, g2⟩ (ix_no (by decide) h1)
    · exact absurd ⟨j, h1, h2⟩ g1
    · exfalso
      have hs := sim_rd t tl dg mp ml hml f o bk bn oa oc
      rw [g3] at hs
      obtain ⟨f', o', e1, -⟩ := hs
      rw [e1] at h3
      cases h3
    · obtain rfl : j = j2 := nIj (by omega) (by omega) (h2.symm.trans g2)
      have hs := sim_rd t tl dg mp ml hml f o bk bn oa oc
      rw [g3] at hs
      rw [show rdT t tl dg ml (2 * mp) f o bk bn = .inl (a2, b2) from hs] at h3
      cases h3
      refine ⟨2, by decide, ⟨_, _, _, _, _, _, _, _, _, _, _, _, _, _, _, _, _, _, _, _, _, _, _, _, _, _, _, _, _, _, _, _, _, _, _, _, _, _, _, _, _, _, _, rfl, rfl, ⟨rfl, rfl⟩, ⟨hdg, hmp1, hmp, hml2, hml, Nat.zero_le _, hln⟩, ⟨ht, hrb⟩, ?_, ?_⟩⟩
      · intro i
        by_cases y : i = j
        · subst y
          exact Or.inl ⟨vu_s _ _ _, vu_s _ _ _⟩
        · rw [show va_up sk j 0 i = sk i from if_neg y, show va_up sc j 0 i = sc i from if_neg y]; exact hsl i
      · intro i hi4
        by_cases y : i = j
        · subst y
          rw [show va_up sk i 0 i = 0 from if_pos rfl, show va_up sc i 0 i = 0 from if_pos rfl]
          exact ⟨fun z hz => by omega, fun z hz => by omega⟩
        · rw [show va_up sk j 0 i = sk i from if_neg y, show va_up sc j 0 i = sc i from if_neg y]
          exact ⟨fun z hz => by rw [plR_o y (by have := hsk i; omega)]; exact (hrel i hi4).1 z hz, fun z hz => by rw [xyR_o y (by have := hsc i; omega)]; exact (hrel i hi4).2 z hz⟩
set_option maxHeartbeats 4000000 in
theorem j_write {l : Launch} (hlt : l.stackTraces = false) {G : gl} {bx bm th : Nat} {w1 w2 : va_W} (s : Int32) (hR : RelW G bx bm th w1 w2) : Jn l G bx bm y_W_write k_W_write 3 (Option.some FieldType.int) 8 174 y_M_write k_M_write 3 (Option.some FieldType.int) 4 101 [.int s] ["java/lang/IndexOutOfBoundsException", "java/lang/IllegalStateException", "java/lang/UnsupportedOperationException"] w1 w2 := by
  obtain ⟨h, u, dg, mp, ml, tl, sk, sc, sf, so, n, p, fk, fp, t, k, c, f, o, bt, bk, bn, ln, ks, la, nx, py, fi, rb, de, wt, wk, wn, pl, xy, ou, wr, sl, q, va, oa, oc, ok, rfl, rfl, ⟨rfl, rfl⟩, ⟨hdg, hmp1, hmp, hml2, hml, htl, hln⟩, ⟨ht, hrb⟩, hsl, hrel⟩ := hR
  have hsk : ∀ j, sk j ≤ ml := fun j => (SlO_le (hsl j)).1
  have hsc : ∀ j, sc j ≤ mp := fun j => (SlO_le (hsl j)).2
  obtain ⟨tx, htx⟩ := Classical.skolem.mp (fun j => sl_tx (dg := dg) (hsl j))
  refine ⟨_, _, _, c_W_write hlt G h ml (2 * mp) dg tl sk sc sf so n p fk fp t k c f o bt bk bn ln ks la nx py fi rb de wt wk wn s tx hsk (fun j => by have := hsc j; omega) (by omega) (by omega) hdg (fun j hj h0 bk bn => ?_), c_M_write l G u dg mp ml th tl t pl sk xy sc ln rb ou wr sl q fk fp va oa oc ok s tx (fun j => by have := hsk j; omega) (fun j => by have := hsc j; omega) hdg (fun j hj h0 => ?_), ?_, ?_, ?_, ?_, ?_⟩
  · obtain ⟨a1, a2, a3, a4, a5, a6, a7⟩ := (htx j h0).2 (sf j) (so j) bk bn (fun _ _ => rfl) (fun _ _ => rfl)
    exact ⟨a1, a2, a3, a4, a5, a6, wRm_n _ _ _ a7⟩
  · obtain ⟨a1, a2, a3, a4, a5, a6, a7⟩ := (htx j h0).2 (fun i => pl (4096 * j + i)) (fun i => xy (8192 * j + i)) (fun _ => 0) (fun _ => 0) (hrel j hj).1 (hrel j hj).2
    exact ⟨_, a1, a2, a3, a4, a5, a6, _, _, a7⟩
  · rintro v w ⟨j, _, _, _, _, _, _, _, _, _, _, _, rfl, _⟩; exact ⟨_, rfl⟩
  · rintro E w (⟨_, rfl, _⟩ | ⟨_, _, _, _, rfl, _⟩ | ⟨_, _, _, _, _, _, _, _, _, _, _, _, rfl, _⟩) <;> simp
  · rintro v w (⟨_, rfl, _⟩ | ⟨_, _, rfl, _⟩ | ⟨_, _, _, _, rfl, _⟩ | ⟨_, _, _, _, rfl, _⟩) <;> exact ⟨_, rfl⟩
  · rintro x' w1' y w2' ⟨j, x1, x2, x3, x4, x5, x6, x7, h1, h2, h3, h5, hv, rfl⟩ (⟨g1, hv2, rfl⟩ | ⟨j2, ⟨g1, g2, g3⟩, hv2, rfl⟩ | ⟨j2, oc9, ok9, ⟨g1, g2, g3, g5⟩, hv2, rfl⟩ | ⟨j2, oc9, ok9, ⟨g1, g2, g3, g5⟩, hv2, rfl⟩)
    · exact absurd ⟨j, h1, h2⟩ g1
    · obtain rfl : j = j2 := nIj (by omega) (by omega) (h2.symm.trans g2)
      exact absurd g3 h3
    · obtain rfl : j = j2 := nIj (by omega) (by omega) (h2.symm.trans g2)
      exact absurd g5 (by omega)
    · obtain rfl : j = j2 := nIj (by omega) (by omega) (h2.symm.trans g2)
      cases hv; cases hv2; exact ⟨rfl, ⟨_, _, _, _, _, _, _, _, _, _, _, _, _, _, _, _, _, _, _, _, _, _, _, _, _, _, _, _, _, _, _, _, _, _, _, _, _, _, _, _, _, _, _, rfl, rfl, ⟨rfl, rfl⟩, ⟨hdg, hmp1, hmp, hml2, hml, htl, h5⟩, ⟨ht, wrB_lt hrb (htx j h3).1⟩, hsl, hrel⟩⟩
  · rintro E w1' y w2' (⟨h1, rfl, rfl⟩ | ⟨j, h1, h2, h3, rfl, rfl⟩ | ⟨j, x1, x2, x3, x4, x5, x6, x7, h1, h2, h3, h5, rfl, rfl⟩) (⟨g1, hv2, rfl⟩ | ⟨j2, ⟨g1, g2, g3⟩, hv2, rfl⟩ | ⟨j2, oc9, ok9, ⟨g1, g2, g3, g5⟩, hv2, rfl⟩ | ⟨j2, oc9, ok9, ⟨g1, g2, g3, g5⟩, hv2, rfl⟩)
    · exact ⟨1, by decide, ⟨_, _, _, _, _, _, _, _, _, _, _, _, _, _, _, _, _, _, _, _, _, _, _, _, _, _, _, _, _, _, _, _, _, _, _, _, _, _, _, _, _, _, _, rfl, rfl, ⟨rfl, rfl⟩, ⟨hdg, hmp1, hmp, hml2, hml, htl, hln⟩, ⟨ht, hrb⟩, hsl, hrel⟩⟩
    · exact absurd ⟨j2, g1, g2⟩ (ix_no (by decide) h1)
    · exact absurd ⟨j2, g1, g2⟩ (ix_no (by decide) h1)
    · exact absurd ⟨j2, g1, g2⟩ (ix_no (by decide) h1)
    · exact absurd ⟨j, h1, h2⟩ g1
    · exact ⟨2, by decide, ⟨_, _, _, _, _, _, _, _, _, _, _, _, _, _, _, _, _, _, _, _, _, _, _, _, _, _, _, _, _, _, _, _, _, _, _, _, _, _, _, _, _, _, _, rfl, rfl, ⟨rfl, rfl⟩, ⟨hdg, hmp1, hmp, hml2, hml, htl, hln⟩, ⟨ht, hrb⟩, hsl, hrel⟩⟩
    · obtain rfl : j = j2 := nIj (by omega) (by omega) (h2.symm.trans g2)
      exact absurd h3 g3
    · obtain rfl : j = j2 := nIj (by omega) (by omega) (h2.symm.trans g2)
      exact absurd h3 g3
    · exact absurd ⟨j, h1, h2⟩ g1
    · obtain rfl : j = j2 := nIj (by omega) (by omega) (h2.symm.trans g2)
      exact absurd g3 h3
    · obtain rfl : j = j2 := nIj (by omega) (by omega) (h2.symm.trans g2)
      exact ⟨3, by decide, ⟨_, _, _, _, _, _, _, _, _, _, _, _, _, _, _, _, _, _, _, _, _, _, _, _, _, _, _, _, _, _, _, _, _, _, _, _, _, _, _, _, _, _, _, rfl, rfl, ⟨rfl, rfl⟩, ⟨hdg, hmp1, hmp, hml2, hml, htl, hln⟩, ⟨ht, hrb⟩, hsl, hrel⟩⟩
    · obtain rfl : j = j2 := nIj (by omega) (by omega) (h2.symm.trans g2)
      exact absurd g5 (by omega)
