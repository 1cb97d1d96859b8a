/-! plans: what brackets hold, and that it can be written -/
/-- closed under what brackets may hold -/
def ItC (P : Nat → Nat → Nat → List Int32 → List (Int32 × Int32) → Prop) : Prop :=
  (∀ bt K, P bt K 0 [] []) ∧
  (∀ (bt K m : Nat) (seg : List Int32) (zs : List (Int32 × Int32)) (x y : Int32), (K = 1 ∨ K = 2 ∨ K = 8) → x.toInt.natAbs ≤ 1000000000 → y.toInt.natAbs ≤ 1000000000 → P bt K m seg zs → P bt K (m + 1) seg (zs ++ [(x, y)])) ∧
  (∀ (bt m c : Nat) (seg : List Int32) (zs z : List (Int32 × Int32)), 1 ≤ c → c ≤ 65536 → P bt 3 m seg zs → P (bt + 1) 8 c [] z → P bt 3 (m + 1) (seg ++ [nI c]) (zs ++ z)) ∧
  (∀ (bt K m c : Nat) (seg s : List Int32) (zs z : List (Int32 × Int32)), (K = 4 ∨ K = 5 ∨ K = 6) → c ≤ 65536 → P bt K m seg zs → P (bt + 1) (K - 3) c s z → P bt K (m + 1) (seg ++ ([nI (K - 3)] ++ [nI c] ++ s)) (zs ++ z)) ∧
  (∀ (bt K m k c : Nat) (seg s : List Int32) (zs z : List (Int32 × Int32)), (K = 0 ∨ K = 7) → 1 ≤ k → k ≤ 7 → (k = 7 → bt < 50) → c ≤ 65536 → P bt K m seg zs → P (bt + 1) k c s z → P bt K (m + 1) (seg ++ ([nI k] ++ [nI c] ++ s)) (zs ++ z))
/-- m items of a bracket of the kind K at the depth bt: their plan and their points -/
def It (bt K m : Nat) (seg : List Int32) (zs : List (Int32 × Int32)) : Prop := ∀ P, ItC P → P bt K m seg zs
theorem It_nil (bt K : Nat) : It bt K 0 [] [] := fun P h => h.1 bt K
theorem It_pt {bt K m : Nat} {seg : List Int32} {zs : List (Int32 × Int32)} (x y : Int32) (hK : K = 1 ∨ K = 2 ∨ K = 8) (hx : x.toInt.natAbs ≤ 1000000000) (hy : y.toInt.natAbs ≤ 1000000000) (h : It bt K m seg zs) : It bt K (m + 1) seg (zs ++ [(x, y)]) := fun P hP => hP.2.1 _ _ _ _ _ x y hK hx hy (h P hP)
theorem It_ring {bt m c : Nat} {seg : List Int32} {zs z : List (Int32 × Int32)} (hc : 1 ≤ c) (hc2 : c ≤ 65536) (h : It bt 3 m seg zs) (h2 : It (bt + 1) 8 c [] z) : It bt 3 (m + 1) (seg ++ [nI c]) (zs ++ z) := fun P hP => hP.2.2.1 _ _ _ _ _ _ hc hc2 (h P hP) (h2 P hP)
theorem It_part {bt K m c : Nat} {seg s : List Int32} {zs z : List (Int32 × Int32)} (hK : K = 4 ∨ K = 5 ∨ K = 6) (hc2 : c ≤ 65536) (h : It bt K m seg zs) (h2 : It (bt + 1) (K - 3) c s z) : It bt K (m + 1) (seg ++ ([nI (K - 3)] ++ [nI c] ++ s)) (zs ++ z) := fun P hP => hP.2.2.2.1 _ _ _ _ _ _ _ _ hK hc2 (h P hP) (h2 P hP)
theorem It_shape {bt K m k c : Nat} {seg s : List Int32} {zs z : List (Int32 × Int32)} (hK : K = 0 ∨ K = 7) (hk : 1 ≤ k) (hk7 : k ≤ 7) (hd : k = 7 → bt < 50) (hc2 : c ≤ 65536) (h : It bt K m seg zs) (h2 : It (bt + 1) k c s z) : It bt K (m + 1) (seg ++ ([nI k] ++ [nI c] ++ s)) (zs ++ z) := fun P hP => hP.2.2.2.2 _ _ _ _ _ _ _ _ _ hK hk hk7 hd hc2 (h P hP) (h2 P hP)
theorem It_ind {P : Nat → Nat → Nat → List Int32 → List (Int32 × Int32) → Prop} (h1 : ∀ bt K, P bt K 0 [] [])
    (h2 : ∀ (bt K m : Nat) (seg : List Int32) (zs : List (Int32 × Int32)) (x y : Int32), (K = 1 ∨ K = 2 ∨ K = 8) → x.toInt.natAbs ≤ 1000000000 → y.toInt.natAbs ≤ 1000000000 → It bt K m seg zs → P bt K m seg zs → P bt K (m + 1) seg (zs ++ [(x, y)]))
    (h3 : ∀ (bt m c : Nat) (seg : List Int32) (zs z : List (Int32 × Int32)), 1 ≤ c → c ≤ 65536 → It bt 3 m seg zs → It (bt + 1) 8 c [] z → P bt 3 m seg zs → P (bt + 1) 8 c [] z → P bt 3 (m + 1) (seg ++ [nI c]) (zs ++ z))
    (h4 : ∀ (bt K m c : Nat) (seg s : List Int32) (zs z : List (Int32 × Int32)), (K = 4 ∨ K = 5 ∨ K = 6) → c ≤ 65536 → It bt K m seg zs → It (bt + 1) (K - 3) c s z → P bt K m seg zs → P (bt + 1) (K - 3) c s z → P bt K (m + 1) (seg ++ ([nI (K - 3)] ++ [nI c] ++ s)) (zs ++ z))
    (h5 : ∀ (bt K m k c : Nat) (seg s : List Int32) (zs z : List (Int32 × Int32)), (K = 0 ∨ K = 7) → 1 ≤ k → k ≤ 7 → (k = 7 → bt < 50) → c ≤ 65536 → It bt K m seg zs → It (bt + 1) k c s z → P bt K m seg zs → P (bt + 1) k c s z → P bt K (m + 1) (seg ++ ([nI k] ++ [nI c] ++ s)) (zs ++ z))
    {bt K m : Nat} {seg : List Int32} {zs : List (Int32 × Int32)} (h : It bt K m seg zs) : P bt K m seg zs :=
  (h (fun bt K m seg zs => It bt K m seg zs ∧ P bt K m seg zs) ⟨fun bt K => ⟨It_nil bt K, h1 bt K⟩,
    fun bt K m seg zs x y a b c d => ⟨It_pt x y a b c d.1, h2 _ _ _ _ _ x y a b c d.1 d.2⟩,
    fun bt m c seg zs z a b d e => ⟨It_ring a b d.1 e.1, h3 _ _ _ _ _ _ a b d.1 e.1 d.2 e.2⟩,
    fun bt K m c seg s zs z a b d e => ⟨It_part a b d.1 e.1, h4 _ _ _ _ _ _ _ _ a b d.1 e.1 d.2 e.2⟩,
    fun bt K m k c seg s zs z a b b2 b3 b4 d e => ⟨It_shape a b b2 b3 b4 d.1 e.1, h5 _ _ _ _ _ _ _ _ _ a b b2 b3 b4 d.1 e.1 d.2 e.2⟩⟩).2
theorem It_0 {bt K m : Nat} {seg : List Int32} {zs : List (Int32 × Int32)} (h : It bt K m seg zs) : m = 0 → seg = [] ∧ zs = [] := by
  refine It_ind (P := fun bt K m seg zs => m = 0 → seg = [] ∧ zs = []) ?_ ?_ ?_ ?_ ?_ h
  · exact fun _ _ _ => ⟨rfl, rfl⟩
  all_goals (intros; omega)
section Wr
variable {dg k c : Nat} {f o : Nat → Int32}
/-- the counts and kinds that an item of a plan has -/
def wIq (K : Nat) (f : Nat → Int32) (nx bt : Nat) : Prop := (K = 0 ∨ K = 7 → bt ≤ 50) ∧ (K = 0 ∨ K = 7 ∨ K = 4 ∨ K = 5 ∨ K = 6 → ∃ v, v ≤ 65536 ∧ f (nx + 1) = nI v) ∧ (K = 4 ∨ K = 5 ∨ K = 6 → f nx = nI (K - 3)) ∧ (K = 3 → ∃ v, 1 ≤ v ∧ v ≤ 65536 ∧ f nx = nI v)
def wGe (f : Nat → Int32) (σ : wSt) : Prop := 0 < σ.2.2.2.2.2.2 σ.2.2.2.2.1 → ∀ K, K ≤ 8 → σ.2.2.2.2.2.1 σ.2.2.2.2.1 = nI K → wIq K f σ.2.1 σ.2.2.2.2.1
/-- in at most m turns it comes to its end, which is τ, and its counts are those of a plan -/
def wRm (dg k : Nat) (f : Nat → Int32) (c : Nat) (o : Nat → Int32) : Nat → wSt → wSt → Prop
  | 0, σ, τ => wDn σ ∧ τ = σ
  | m + 1, σ, τ => (wDn σ ∧ τ = σ) ∨ (¬ wDn σ ∧ (wGd k f c o σ ∧ wGe f σ) ∧ wRm dg k f c o m (wSp dg f o σ) τ)
theorem wRm_n : ∀ (m : Nat) (σ τ : wSt), wRm dg k f c o m σ τ → wRn dg k f c o m σ τ
  | 0, σ, τ, h => h
  | m + 1, σ, τ, h => by
    rcases h with h | ⟨h1, h2, h3⟩
    · exact Or.inl h
    · exact Or.inr ⟨h1, h2.1, wRm_n m _ τ h3⟩
/-- so many turns, one after the other -/
def wSs (dg k : Nat) (f : Nat → Int32) (c : Nat) (o : Nat → Int32) : Nat → wSt → wSt → Prop
  | 0, σ, τ => τ = σ
  | T + 1, σ, τ => ¬ wDn σ ∧ (wGd k f c o σ ∧ wGe f σ) ∧ wSs dg k f c o T (wSp dg f o σ) τ
theorem wSs_t : ∀ (a b : Nat) (σ ρ τ : wSt), wSs dg k f c o a σ ρ → wSs dg k f c o b ρ τ → wSs dg k f c o (a + b) σ τ
  | 0, b, σ, ρ, τ, h1, h2 => by
    have : ρ = σ := h1
    subst this
    rw [Nat.zero_add]; exact h2
  | a + 1, b, σ, ρ, τ, h1, h2 => by
    rw [show a + 1 + b = (a + b) + 1 by omega]
    exact ⟨h1.1, h1.2.1, wSs_t a b _ ρ τ h1.2.2 h2⟩
theorem wSs_r : ∀ (T m : Nat) (σ ρ τ : wSt), wSs dg k f c o T σ ρ → wRm dg k f c o m ρ τ → wRm dg k f c o (T + m) σ τ
  | 0, m, σ, ρ, τ, h1, h2 => by
    have : ρ = σ := h1
    subst this
    rw [Nat.zero_add]; exact h2
  | T + 1, m, σ, ρ, τ, h1, h2 => by
    rw [show T + 1 + m = (T + m) + 1 by omega]
    exact Or.inr ⟨h1.1, h1.2.1, wSs_r T m _ ρ τ h1.2.2 h2⟩
theorem gt0 {a : Nat} (h : a < 2 ^ 31) : (0 < nI a) ↔ 0 < a := by
  rw [Int32.lt_iff_toInt_lt, nI_toInt h, Int32.toInt_zero]; omega
theorem eq0 {a : Nat} (h : a < 2 ^ 31) : (nI a = 0) ↔ a = 0 := by
  rw [← Int32.toInt_inj, nI_toInt h, Int32.toInt_zero]; omega
theorem sub1 {a : Nat} : nI (a + 1) - 1 = nI a := by
  rw [← nI_add, show (1 : Int32) = nI 1 from by decide, Int32.add_sub_cancel]
/-- the bracket that ends -/
theorem wS_cl {ou : List Nat} {nx py bt : Nat} {fi : Bool} {bk bn : Nat → Int32} (hb : bn (bt + 1) = nI 0) (ht : bt + 1 < 54) : wSs dg k f c o 1 (ou, nx, py, fi, bt + 1, bk, bn) (ou ++ [41], nx, py, fi, bt, bk, bn) := by
  have h0 : ¬ 0 < bn (bt + 1) := by rw [hb]; decide
  refine ⟨fun h => absurd h.1 (Nat.succ_ne_zero _), ⟨⟨ht, fun h => absurd h h0⟩, fun h => absurd h h0⟩, ?_⟩
  show _ = wSp _ _ _ _
  unfold wSp
  rw [if_neg h0]
  rfl
/-- an item -/
theorem wS_it {ou : List Nat} {nx py bt K m : Nat} {fi : Bool} {bk bn : Nat → Int32} (hK : bk bt = nI K) (hK8 : K ≤ 8) (hb : bn bt = nI (m + 1)) (hm : m < 2 ^ 30) (ht : bt < 54) (hg : wIo K k f c o nx py bt) (hq : wIq K f nx bt) : wSs dg k f c o 1 (ou, nx, py, fi, bt, bk, bn) (wIt dg K f o fi ou nx py bt bk bn) := by
  have h0 : 0 < bn bt := by rw [hb]; exact (gt0 (by omega)).mpr (by omega)
  refine ⟨fun h => ?_, ⟨⟨ht, fun _ => ⟨K, hK, hg⟩⟩, fun _ K2 h8 h2 => by rw [show K2 = K from (nI_eq (by omega) (by omega)).mp (h2.symm.trans hK)]; exact hq⟩, ?_⟩
  · have h1 : bt = 0 := h.1
    subst h1
    exact h.2 h0
  · show _ = wSp _ _ _ _
    unfold wSp
    rw [if_pos h0]
    show _ = wIt dg (bk bt).toNatClampNeg f o fi ou nx py bt bk bn
    rw [hK, nI_clamp (by omega)]
/-- a body: its bracket, what it holds, and the end; or the word -/
theorem wS_bd {K bt x : Nat} {s : List Int32} {z : List (Int32 × Int32)} {tx : Bool → List Nat} (hx2 : x ≤ 65536) (hlim : bt + 1 ≤ 53) (h0 : x = 0 → s = [] ∧ z = [])
    (hs : ∀ (ou : List Nat) (nx py : Nat) (fi : Bool) (bk bn : Nat → Int32) (r : Nat), x + r < 2 ^ 30 → bk (bt + 1) = nI K → bn (bt + 1) = nI (x + r) → nx + s.length ≤ k → py + z.length ≤ c → (∀ i, i < s.length → f (nx + i) = s.getD i 0) → (∀ i, i < z.length → o (2 * (py + i)) = (z.getD i (0, 0)).1 ∧ o (2 * (py + i) + 1) = (z.getD i (0, 0)).2) →
      ∃ T bk' bn', T ≤ 2 * s.length + z.length ∧ wSs dg k f c o T (ou, nx, py, fi, bt + 1, bk, bn) (ou ++ tx fi, nx + s.length, py + z.length, (if x = 0 then fi else false), bt + 1, bk', bn') ∧ (∀ i, i ≤ bt + 1 → bk' i = bk i) ∧ bn' (bt + 1) = nI r ∧ ∀ i, i < bt + 1 → bn' i = bn i)
    (ou : List Nat) (nx py : Nat) (bk bn : Nat → Int32) (h1 : nx + s.length ≤ k) (h2 : py + z.length ≤ c) (h3 : ∀ i, i < s.length → f (nx + i) = s.getD i 0) (h4 : ∀ i, i < z.length → o (2 * (py + i)) = (z.getD i (0, 0)).1 ∧ o (2 * (py + i) + 1) = (z.getD i (0, 0)).2) :
    ∃ T bk' bn', T ≤ 1 + 2 * s.length + z.length ∧ wSs dg k f c o T (bdW (nI K) (nI x) ou nx py bt bk bn) (ou ++ (if x = 0 then wdL 8 else [40] ++ tx true ++ [41]), nx + s.length, py + z.length, false, bt, bk', bn') ∧ (∀ i, i ≤ bt → bk' i = bk i) ∧ ∀ i, i ≤ bt → bn' i = bn i := by
  by_cases hx : x = 0
  · obtain ⟨rfl, rfl⟩ := h0 hx
    subst hx
    refine ⟨0, bk, bn, Nat.zero_le _, ?_, fun i _ => rfl, fun i _ => rfl⟩
    show _ = bdW _ _ _ _ _ _ _ _
    unfold bdW
    rw [if_pos rfl, if_pos (show nI 0 = 0 by decide), if_pos (show nI 0 = 0 by decide), if_pos (show nI 0 = 0 by decide), if_pos (show nI 0 = 0 by decide), show decide (¬ nI 0 = 0) = false from by decide]
    rfl
  · have hn : ¬ nI x = 0 := fun h => hx ((eq0 (by omega)).mp h)
    have e : bdW (nI K) (nI x) ou nx py bt bk bn = (ou ++ [40], nx, py, true, bt + 1, upd bk (bt + 1) (nI K), upd bn (bt + 1) (nI x)) := by
      unfold bdW
      rw [if_neg hn, if_neg hn, if_neg hn, if_neg hn, decide_eq_true hn]
    rw [e, if_neg hx]
    obtain ⟨T, bk', bn', a1, a2, a3, a4, a5⟩ := hs (ou ++ [40]) nx py true (upd bk (bt + 1) (nI K)) (upd bn (bt + 1) (nI x)) 0 (by omega) (upd_s _ _ _) (upd_s _ _ _) h1 h2 h3 h4
    rw [if_neg hx] at a2
    refine ⟨T + 1, bk', bn', by omega, ?_, fun i h => (a3 i (by omega)).trans (upd_o (by omega)), fun i h => (a5 i (by omega)).trans (upd_o (by omega))⟩
    have := wSs_t T 1 _ _ _ a2 (wS_cl a4 (by omega))
    rw [show ou ++ ([40] ++ tx true ++ [41]) = ou ++ [40] ++ tx true ++ [41] by simp]
    exact this
theorem getD_l {α : Type} {a b : List α} {i : Nat} {d : α} (h : i < a.length) : (a ++ b).getD i d = a.getD i d := by
  simp [List.getD_eq_getElem?_getD, List.getElem?_append_left h]
theorem getD_r {α : Type} {a b : List α} {i : Nat} {d : α} : (a ++ b).getD (a.length + i) d = b.getD i d := by
  simp [List.getD_eq_getElem?_getD, List.getElem?_append_right]
/-- what brackets hold is written -/
theorem it_wr (dg : Nat) {bt K m : Nat} {seg : List Int32} {zs : List (Int32 × Int32)} (h : It bt K m seg zs) : bt ≤ limK K → ∃ tx : Bool → List Nat, ∀ (k c : Nat) (f o : Nat → Int32) (ou : List Nat) (nx py : Nat) (fi : Bool) (bk bn : Nat → Int32) (r : Nat), m + r < 2 ^ 30 → bk bt = nI K → bn bt = nI (m + r) → nx + seg.length ≤ k → py + zs.length ≤ c → (∀ i, i < seg.length → f (nx + i) = seg.getD i 0) → (∀ i, i < zs.length → o (2 * (py + i)) = (zs.getD i (0, 0)).1 ∧ o (2 * (py + i) + 1) = (zs.getD i (0, 0)).2) →
      ∃ T bk' bn', T ≤ 2 * seg.length + zs.length ∧ wSs dg k f c o T (ou, nx, py, fi, bt, bk, bn) (ou ++ tx fi, nx + seg.length, py + zs.length, (if m = 0 then fi else false), bt, bk', bn') ∧ (∀ i, i ≤ bt → bk' i = bk i) ∧ bn' bt = nI r ∧ ∀ i, i < bt → bn' i = bn i := by
  refine It_ind (P := fun bt K m seg zs => bt ≤ limK K → ∃ tx : Bool → List Nat, ∀ (k c : Nat) (f o : Nat → Int32) (ou : List Nat) (nx py : Nat) (fi : Bool) (bk bn : Nat → Int32) (r : Nat), m + r < 2 ^ 30 → bk bt = nI K → bn bt = nI (m + r) → nx + seg.length ≤ k → py + zs.length ≤ c → (∀ i, i < seg.length → f (nx + i) = seg.getD i 0) → (∀ i, i < zs.length → o (2 * (py + i)) = (zs.getD i (0, 0)).1 ∧ o (2 * (py + i) + 1) = (zs.getD i (0, 0)).2) →       ∃ T bk' bn', T ≤ 2 * seg.length + zs.length ∧ wSs dg k f c o T (ou, nx, py, fi, bt, bk, bn) (ou ++ tx fi, nx + seg.length, py + zs.length, (if m = 0 then fi else false), bt, bk', bn') ∧ (∀ i, i ≤ bt → bk' i = bk i) ∧ bn' bt = nI r ∧ ∀ i, i < bt → bn' i = bn i) ?_ ?_ ?_ ?_ ?_ h
  · intro bt K _
    refine ⟨fun _ => [], ?_⟩
    intro k c f o ou nx py fi bk bn r hr h1 h2 _ _ _ _
    refine ⟨0, bk, bn, Nat.zero_le _, ?_, fun i _ => rfl, by rw [h2, Nat.zero_add], fun i _ => rfl⟩
    show _ = _
    rw [if_pos rfl, List.append_nil]
    rfl
  · intro bt K m seg zs x y hK hx hy h ih hlim
    obtain ⟨tx, ih⟩ := ih hlim
    refine ⟨fun fi => tx fi ++ (preT (if m = 0 then fi else false) ++ (nmX dg x ++ ([32] ++ nmX dg y))), ?_⟩
    intro k c f o ou nx py fi bk bn r hr h1 h2 h3 h4 h5 h6
    have hl : (zs ++ [(x, y)]).length = zs.length + 1 := by simp
    rw [hl] at h4 h6
    obtain ⟨T, bk', bn', a1, a2, a3, a4, a5⟩ := ih k c f o ou nx py fi bk bn (r + 1) (by omega) h1 (by rw [h2]; exact congrArg nI (by omega)) h3 (by omega) h5 (fun i hi => by rw [← getD_l (b := [(x, y)]) hi]; exact h6 i (by omega))
    have hp := h6 zs.length (by omega)
    rw [show zs.length = zs.length + 0 from rfl, getD_r] at hp
    have hp1 : o (2 * (py + zs.length)) = x := hp.1
    have hp2 : o (2 * (py + zs.length) + 1) = y := hp.2
    have hlim54 : bt < 54 := by have : limK K ≤ 53 := (by unfold limK; repeat' split <;> first | omega | skip); omega
    have hg : wIo K k f c o (nx + seg.length) (py + zs.length) bt := ⟨by omega, hlim54, fun z => by omega, fun z => by omega, fun z => by omega, fun _ => ⟨by omega, by rw [hp1]; exact hx, by rw [hp2]; exact hy⟩⟩
    have hit := wS_it (dg := dg) (ou := ou ++ tx fi) (fi := if m = 0 then fi else false) (hK := (a3 bt (Nat.le_refl _)).trans h1) (by omega) a4 (by omega) hlim54 hg ⟨fun z => by omega, fun z => by omega, fun z => by omega, fun z => by omega⟩
    rw [wIt_d hK] at hit
    refine ⟨T + 1, bk', upd bn' bt (bn' bt - 1), by rw [hl]; omega, ?_, a3, by rw [upd_s, a4, sub1], fun i hi => by rw [upd_o (by omega)]; exact a5 i hi⟩
    have := wSs_t _ _ _ _ _ a2 hit
    rw [if_neg (show ¬ m + 1 = 0 by omega), hl]
    unfold ptT at this
    rw [hp1, hp2] at this
    simp only [List.append_assoc] at this ⊢
    exact this
  · intro bt m c1 seg zs z hc hc2 h h2 ih ih2 hlim
    have hl52 : bt ≤ 52 := hlim
    obtain ⟨tx, ih⟩ := ih hlim
    obtain ⟨tx2, ih2⟩ := ih2 (show bt + 1 ≤ 53 by omega)
    refine ⟨fun fi => tx fi ++ (preT (if m = 0 then fi else false) ++ (if c1 = 0 then wdL 8 else [40] ++ tx2 true ++ [41])), ?_⟩
    intro k c f o ou nx py fi bk bn r hr h1 h2' h3 h4 h5 h6
    have hl : (seg ++ [nI c1]).length = seg.length + 1 := by simp
    have hlz : (zs ++ z).length = zs.length + z.length := by simp
    rw [hl] at h3 h5
    rw [hlz] at h4 h6
    obtain ⟨T, bk', bn', a1, a2, a3, a4, a5⟩ := ih k c f o ou nx py fi bk bn (r + 1) (by omega) h1 (by rw [h2']; exact congrArg nI (by omega)) (by omega) (by omega) (fun i hi => by rw [← getD_l (b := [nI c1]) hi]; exact h5 i (by omega)) (fun i hi => by rw [← getD_l (b := z) hi]; exact h6 i (by omega))
    have e1 : f (nx + seg.length) = nI c1 := by
      rw [h5 seg.length (by omega), show seg.length = seg.length + 0 from rfl, getD_r]; rfl
    have hg : wIo 3 k f c o (nx + seg.length) (py + zs.length) bt := ⟨by omega, by omega, fun z => by omega, fun z => by omega, fun _ => ⟨by omega, by omega⟩, fun z => by omega⟩
    have hit := wS_it (dg := dg) (ou := ou ++ tx fi) (fi := if m = 0 then fi else false) (hK := (a3 bt (Nat.le_refl _)).trans h1) (by omega) a4 (by omega) (by omega) hg ⟨fun z => by omega, fun z => by omega, fun z => by omega, fun _ => ⟨c1, hc, hc2, e1⟩⟩
    rw [wIt_3, e1] at hit
    obtain ⟨T2, bk2, bn2, c1', c2, c3, c4⟩ := wS_bd (dg := dg) (k := k) (c := c) (f := f) (o := o) (K := 8) (bt := bt) (x := c1) (s := []) (z := z) (tx := tx2) hc2 (by omega) (fun y => by omega) (fun ou nx py fi bk bn r => ih2 k c f o ou nx py fi bk bn r) (ou ++ tx fi ++ preT (if m = 0 then fi else false)) (nx + seg.length + 1) (py + zs.length) bk' (upd bn' bt (bn' bt - 1)) (by simp; omega) (by omega) (fun i hi => absurd hi (Nat.not_lt_zero _)) (fun i hi => by rw [← getD_r (a := zs), Nat.add_assoc]; exact h6 _ (by omega))
    refine ⟨T + 1 + T2, bk2, bn2, by rw [hl, hlz]; simp only [List.length_nil] at c1'; omega, ?_, fun i hi => (c3 i hi).trans (a3 i hi), by rw [c4 _ (Nat.le_refl _), upd_s, a4, sub1], fun i hi => by rw [c4 i (by omega), upd_o (by omega)]; exact a5 i hi⟩
    have := wSs_t _ _ _ _ _ (wSs_t _ _ _ _ _ a2 hit) c2
    rw [if_neg (show ¬ m + 1 = 0 by omega), hl, hlz]
    simp only [List.append_assoc, List.length_nil, Nat.add_zero, Nat.add_assoc] at this ⊢
    exact this
  · intro bt K m c1 seg s zs z hK hc2 h h2 ih ih2 hlim
    have hl51 : bt ≤ 51 := by rcases hK with rfl | rfl | rfl <;> exact hlim
    obtain ⟨tx, ih⟩ := ih hlim
    obtain ⟨tx2, ih2⟩ := ih2 (by rcases hK with rfl | rfl | rfl <;> (show bt + 1 ≤ 52; omega))
    refine ⟨fun fi => tx fi ++ (preT (if m = 0 then fi else false) ++ (if c1 = 0 then wdL 8 else [40] ++ tx2 true ++ [41])), ?_⟩
    intro k c f o ou nx py fi bk bn r hr h1 h2' h3 h4 h5 h6
    have hl : (seg ++ ([nI (K - 3)] ++ [nI c1] ++ s)).length = seg.length + (2 + s.length) := by simp; omega
    have hlz : (zs ++ z).length = zs.length + z.length := by simp
    rw [hl] at h3 h5
    rw [hlz] at h4 h6
    obtain ⟨T, bk', bn', a1, a2, a3, a4, a5⟩ := ih k c f o ou nx py fi bk bn (r + 1) (by omega) h1 (by rw [h2']; exact congrArg nI (by omega)) (by omega) (by omega) (fun i hi => by rw [← getD_l (b := [nI (K - 3)] ++ [nI c1] ++ s) hi]; exact h5 i (by omega)) (fun i hi => by rw [← getD_l (b := z) hi]; exact h6 i (by omega))
    have e1 : f (nx + seg.length) = nI (K - 3) := by
      rw [h5 seg.length (by omega), show seg.length = seg.length + 0 from rfl, getD_r]; rfl
    have e2 : f (nx + seg.length + 1) = nI c1 := by
      rw [Nat.add_assoc, h5 (seg.length + 1) (by omega), getD_r]; rfl
    have hg : wIo K k f c o (nx + seg.length) (py + zs.length) bt := ⟨by omega, by omega, fun z => by omega, fun z => ⟨by omega, by omega⟩, fun z => by omega, fun z => by omega⟩
    have hit := wS_it (dg := dg) (ou := ou ++ tx fi) (fi := if m = 0 then fi else false) (hK := (a3 bt (Nat.le_refl _)).trans h1) (by omega) a4 (by omega) (by omega) hg ⟨fun z => by omega, fun _ => ⟨c1, hc2, e2⟩, fun _ => e1, fun z => by omega⟩
    rw [wIt_m hK, e1, e2] at hit
    obtain ⟨T2, bk2, bn2, c1', c2, c3, c4⟩ := wS_bd (dg := dg) (k := k) (c := c) (f := f) (o := o) (K := K - 3) (bt := bt) (x := c1) (s := s) (z := z) (tx := tx2) hc2 (by omega) (fun y => It_0 h2 y) (fun ou nx py fi bk bn r => ih2 k c f o ou nx py fi bk bn r) (ou ++ tx fi ++ preT (if m = 0 then fi else false)) (nx + seg.length + 2) (py + zs.length) bk' (upd bn' bt (bn' bt - 1)) (by omega) (by omega) (fun i hi => by rw [show nx + seg.length + 2 + i = nx + (seg.length + (2 + i)) by omega, h5 _ (by omega), getD_r, show 2 + i = ([nI (K - 3)] ++ [nI c1]).length + i from rfl, getD_r]) (fun i hi => by rw [← getD_r (a := zs), Nat.add_assoc]; exact h6 _ (by omega))
    refine ⟨T + 1 + T2, bk2, bn2, by rw [hl, hlz]; omega, ?_, fun i hi => (c3 i hi).trans (a3 i hi), by rw [c4 _ (Nat.le_refl _), upd_s, a4, sub1], fun i hi => by rw [c4 i (by omega), upd_o (by omega)]; exact a5 i hi⟩
    have := wSs_t _ _ _ _ _ (wSs_t _ _ _ _ _ a2 hit) c2
    rw [if_neg (show ¬ m + 1 = 0 by omega), hl, hlz]
    simp only [List.append_assoc, Nat.add_assoc] at this ⊢
    exact this
  · intro bt K m k1 c1 seg s zs z hK hk hk7 hd hc2 h h2 ih ih2 hlim
    have hl50 : bt ≤ 50 := by rcases hK with rfl | rfl; exact Nat.le_trans hlim (by decide); exact hlim
    obtain ⟨tx, ih⟩ := ih hlim
    obtain ⟨tx2, ih2⟩ := ih2 (by rcases (show k1 = 1 ∨ k1 = 2 ∨ k1 = 3 ∨ k1 = 4 ∨ k1 = 5 ∨ k1 = 6 ∨ k1 = 7 by omega) with rfl | rfl | rfl | rfl | rfl | rfl | rfl <;> first | (show bt + 1 ≤ 52; omega) | (show bt + 1 ≤ 51; omega) | (have := hd rfl; show bt + 1 ≤ 50; omega))
    refine ⟨fun fi => tx fi ++ (preT (if m = 0 then fi else false) ++ (wdL k1 ++ ([32] ++ (if c1 = 0 then wdL 8 else [40] ++ tx2 true ++ [41])))), ?_⟩
    intro k c f o ou nx py fi bk bn r hr h1 h2' h3 h4 h5 h6
    have hl : (seg ++ ([nI k1] ++ [nI c1] ++ s)).length = seg.length + (2 + s.length) := by simp; omega
    have hlz : (zs ++ z).length = zs.length + z.length := by simp
    rw [hl] at h3 h5
    rw [hlz] at h4 h6
    obtain ⟨T, bk', bn', a1, a2, a3, a4, a5⟩ := ih k c f o ou nx py fi bk bn (r + 1) (by omega) h1 (by rw [h2']; exact congrArg nI (by omega)) (by omega) (by omega) (fun i hi => by rw [← getD_l (b := [nI k1] ++ [nI c1] ++ s) hi]; exact h5 i (by omega)) (fun i hi => by rw [← getD_l (b := z) hi]; exact h6 i (by omega))
    have e1 : f (nx + seg.length) = nI k1 := by
      rw [h5 seg.length (by omega), show seg.length = seg.length + 0 from rfl, getD_r]; rfl
    have e2 : f (nx + seg.length + 1) = nI c1 := by
      rw [Nat.add_assoc, h5 (seg.length + 1) (by omega), getD_r]; rfl
    have hg : wIo K k f c o (nx + seg.length) (py + zs.length) bt := ⟨by omega, by omega, fun z => ⟨by omega, by omega, k1, hk, hk7, e1⟩, fun z => by omega, fun z => by omega, fun z => by omega⟩
    have hit := wS_it (dg := dg) (ou := ou ++ tx fi) (fi := if m = 0 then fi else false) (hK := (a3 bt (Nat.le_refl _)).trans h1) (by omega) a4 (by omega) (by omega) hg ⟨fun _ => hl50, fun _ => ⟨c1, hc2, e2⟩, fun z => by omega, fun z => by omega⟩
    rw [wIt_c hK e1 hk7, e2] at hit
    obtain ⟨T2, bk2, bn2, c1', c2, c3, c4⟩ := wS_bd (dg := dg) (k := k) (c := c) (f := f) (o := o) (K := k1) (bt := bt) (x := c1) (s := s) (z := z) (tx := tx2) hc2 (by omega) (fun y => It_0 h2 y) (fun ou nx py fi bk bn r => ih2 k c f o ou nx py fi bk bn r) (ou ++ tx fi ++ preT (if m = 0 then fi else false) ++ wdL k1 ++ [32]) (nx + seg.length + 2) (py + zs.length) bk' (upd bn' bt (bn' bt - 1)) (by omega) (by omega) (fun i hi => by rw [show nx + seg.length + 2 + i = nx + (seg.length + (2 + i)) by omega, h5 _ (by omega), getD_r, show 2 + i = ([nI k1] ++ [nI c1]).length + i from rfl, getD_r]) (fun i hi => by rw [← getD_r (a := zs), Nat.add_assoc]; exact h6 _ (by omega))
    refine ⟨T + 1 + T2, bk2, bn2, by rw [hl, hlz]; omega, ?_, fun i hi => (c3 i hi).trans (a3 i hi), by rw [c4 _ (Nat.le_refl _), upd_s, a4, sub1], fun i hi => by rw [c4 i (by omega), upd_o (by omega)]; exact a5 i hi⟩
    have := wSs_t _ _ _ _ _ (wSs_t _ _ _ _ _ a2 hit) c2
    rw [if_neg (show ¬ m + 1 = 0 by omega), hl, hlz]
    simp only [List.append_assoc, Nat.add_assoc] at this ⊢
    exact this
/-- a plan that was read is written -/
theorem pl_wr (dg : Nat) {xs : List Int32} {ys : List (Int32 × Int32)} (h : It 0 0 1 xs ys) : ∃ tx : List Nat, ∀ (f o bk bn : Nat → Int32), (∀ i, i < xs.length → f i = xs.getD i 0) → (∀ i, i < ys.length → o (2 * i) = (ys.getD i (0, 0)).1 ∧ o (2 * i + 1) = (ys.getD i (0, 0)).2) → ∃ nx9 py9 fi9 bt9 bk9 bn9, wRm dg xs.length f ys.length o (2 * xs.length + ys.length) ([], 0, 0, true, 0, upd bk 0 (nI 0), upd bn 0 (nI 1)) (tx, nx9, py9, fi9, bt9, bk9, bn9) := by
  obtain ⟨tx, h⟩ := it_wr dg h (Nat.le_refl _)
  refine ⟨tx true, fun f o bk bn h1 h2 => ?_⟩
  obtain ⟨T, bk', bn', a1, a2, a3, a4, a5⟩ := h xs.length ys.length f o [] 0 0 true (upd bk 0 (nI 0)) (upd bn 0 (nI 1)) 0 (by omega) rfl rfl (by omega) (by omega) (fun i hi => by rw [Nat.zero_add]; exact h1 i hi) (fun i hi => by rw [Nat.zero_add]; exact h2 i hi)
  refine ⟨xs.length, ys.length, false, 0, bk', bn', ?_⟩
  · rw [show 2 * xs.length + ys.length = T + (2 * xs.length + ys.length - T) by omega]
    refine wSs_r _ _ _ _ _ a2 ?_
    have hd : wDn ([] ++ tx true, 0 + xs.length, 0 + ys.length, (if 1 = 0 then true else false), 0, bk', bn') := ⟨rfl, by show ¬ 0 < bn' 0; rw [a4]; decide⟩
    have e : (tx true, xs.length, ys.length, false, 0, bk', bn') = ([] ++ tx true, 0 + xs.length, 0 + ys.length, (if 1 = 0 then true else false), 0, bk', bn') := by rw [List.nil_append, Nat.zero_add, Nat.zero_add, if_neg (by decide)]
    rw [e]
    cases 2 * xs.length + ys.length - T with
    | zero => exact ⟨hd, rfl⟩
    | succ z => exact Or.inl ⟨hd, rfl⟩
end Wr
