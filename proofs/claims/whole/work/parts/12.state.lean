/-! The state of the network as numbers: a row and a place. Rows: 0 the day; 1 the kind of a shop; 2, 3 rate and cap of a kind; 4 how many payments, 5 to 10 their card, shop, amount, what is captured, last day, whether void; 11 how many captures, 12 to 15 their payment, amount, fee, what is refunded; 16 how many chargebacks, 17 to 20 their stage, capture, amount, last day; 21 the fees. Nets: row 0 in all, row 1 of the day. -/
abbrev Sg : Type := (Nat → Nat → Nat) × (Nat → Nat → Int)
def up2 {α : Type} (f : Nat → Nat → α) (t i : Nat) (v : α) : Nat → Nat → α := fun t' i' => if t' = t ∧ i' = i then v else f t' i'
theorem up2_s {α : Type} (f : Nat → Nat → α) (t i : Nat) (v : α) : up2 f t i v t i = v := by simp [up2]
theorem up2_t {α : Type} (f : Nat → Nat → α) {t t' : Nat} (i i' : Nat) (v : α) (h : t' ≠ t) : up2 f t i v t' i' = f t' i' := by simp [up2, h]
theorem up2_i {α : Type} (f : Nat → Nat → α) (t t' : Nat) {i i' : Nat} (v : α) (h : i' ≠ i) : up2 f t i v t' i' = f t' i' := by simp [up2, h]
theorem up2_up2 {α : Type} (f : Nat → Nat → α) (t i : Nat) (v w : α) : up2 (up2 f t i v) t i w = up2 f t i w := by
  funext t' i'
  by_cases h : t' = t ∧ i' = i <;> simp [up2, h]
def lI (x : Int) : Int64 := Int64.ofInt x
/-- addresses of all that is; a list's row: its length, its elements; a list's count of changes -/
abbrev Gh : Type := (Nat → Nat → Nat) × (Nat → Nat) × (Nat → Nat → Option Nat) × (Nat → Int32)
def cnt (σ : Sg) (i : Nat) : Nat := if i = 0 then σ.1 4 0 else if i = 1 then σ.1 11 0 else σ.1 16 0
def ltag (i : Nat) : Nat := if i = 0 then 5 else if i = 1 then 1 else 3
def rlen (i : Nat) : Nat := if i = 0 then 4 else if i = 1 then 3 else if i = 2 then 8 else 12
def rtag (i : Nat) : Nat := if i = 0 then 0 else if i = 1 then 4 else if i = 2 then 6 else 2
def cbl (st u : Nat) : Int32 := if st ≤ 1 then nI u else -1
theorem cbl_t {st u : Nat} (h : st ≤ 1) : cbl st u = nI u := if_pos h
theorem cbl_f {st u : Nat} (h : ¬ st ≤ 1) : cbl st u = -1 := if_neg h
def lar (e0 : Nat × Nat) (σ : Sg) (g : Gh) (i : Nat) : Nat := if cnt σ i = 0 then e0.1 else g.1 10 i
def mlen (k : Nat) : Nat := if k = 1 then 8 else if k = 2 then 3 else if k = 3 then 3 else if k = 12 then 100 else if k = 13 then 100 else if k = 14 then 100 else if k = 15 then 100 else 60
def mints : List Nat := [1, 2, 3, 5, 6, 7, 8, 9, 12, 13, 14, 15, 17, 18, 19, 20]
def marrs : List Nat := [1, 2, 3, 5, 6, 7, 8, 9, 12, 13, 14, 15, 17, 18, 19, 20, 10, 22, 23]
abbrev qrow (cA : ClassId) (n : Nat) (f : Nat → Option Nat) : va_E := .inl (cA, n, .inr (.inr (.inr (.inr f))))
abbrev irow (cA : ClassId) (n : Nat) (f : Nat → Int32) : va_E := .inl (cA, n, .inl f)
abbrev lrow (cA : ClassId) (n : Nat) (f : Nat → Int64) : va_E := .inl (cA, n, .inr (.inl f))
def mobj (τ : Sg) (th : Int32) (ad : Nat → Nat → Nat) : List Value := [.int (nI (τ.1 0 0)), .ref (ad 12 1), .ref (ad 12 2), .ref (ad 12 3), .int (nI (τ.1 4 0)), .ref (ad 12 5), .ref (ad 12 6), .ref (ad 12 7), .ref (ad 12 8), .ref (ad 12 9), .ref (ad 12 10), .int (nI (τ.1 11 0)), .ref (ad 12 12), .ref (ad 12 13), .ref (ad 12 14), .ref (ad 12 15), .int (nI (τ.1 16 0)), .ref (ad 12 17), .ref (ad 12 18), .ref (ad 12 19), .ref (ad 12 20), .int (nI (τ.1 21 0)), .ref (ad 12 22), .ref (ad 12 23), .int th]
def gcell (kc : Nat → ClassId) (e0 : Nat × Nat) (σ τ : Sg) (th : Int32) (o : Int64) (g : Gh) (t i : Nat) : va_E := match t with
  | 0 => .inr (1, [.long (lI (σ.2 0 i)), .long (lI (σ.2 1 i))])
  | 1 => .inr (2, [.int (nI i), .ref (g.1 5 (σ.1 12 i)), .int (nI (σ.1 13 i)), .int (nI (σ.1 14 i)), .int (nI (σ.1 15 i))])
  | 2 => .inr (3, [.int (nI i), .ref (g.1 0 (i / 3))])
  | 3 => .inr (4, [.int (nI i), .ref (g.1 1 (σ.1 18 i)), .int (nI (σ.1 19 i)), .int (nI (σ.1 17 i)), .int (cbl (σ.1 17 i) (σ.1 20 i))])
  | 4 => .inr (5, [.int (nI i), .int (nI (σ.1 2 i)), .int (nI (σ.1 3 i))])
  | 5 => .inr (6, [.int (nI i), .ref (g.1 2 (σ.1 5 i)), .ref (g.1 6 (σ.1 6 i)), .int (nI (σ.1 7 i)), .int (nI (σ.1 9 i)), .int (nI (σ.1 8 i)), .int (nI (σ.1 10 i))])
  | 6 => .inr (7, [.int (nI i), .ref (g.1 0 (i % 4)), .ref (g.1 4 (σ.1 1 i))])
  | 7 => .inr (8, [.ref (g.1 8 0), .ref (g.1 8 1), .ref (g.1 8 2), .ref (g.1 8 3), .ref (g.1 9 0), .ref (g.1 9 1), .ref (g.1 9 2), .int (nI (σ.1 0 0))])
  | 8 => qrow (kc (3 + i)) (rlen i) (fun j => if j < rlen i then some (g.1 (rtag i) j) else none)
  | 9 => .inr (0, [.int (g.2.2.2 i), .ref (lar e0 σ g i), .int (nI (cnt σ i))])
  | 10 => qrow (kc 7) (g.2.1 i) (g.2.2.1 i)
  | 11 => .inr (9, mobj τ th g.1)
  | 12 => if i = 10 then irow (kc 2) 60 (fun j => nI (τ.1 10 j)) else if i = 22 then lrow (kc 1) 4 (fun j => lI (τ.2 0 j)) else if i = 23 then lrow (kc 1) 4 (fun j => lI (τ.2 1 j)) else irow (kc 0) (mlen i) (fun j => nI (τ.1 i j))
  | _ => lrow (kc 1) 1 (fun j => if j = 0 then o else 0)
def inR (pr : Nat → Prop) (σ : Sg) (t i : Nat) : Prop := pr t ∧ match t with
  | 0 => i < 4
  | 1 => i < σ.1 11 0
  | 2 => i < 12
  | 3 => i < σ.1 16 0
  | 4 => i < 3
  | 5 => i < σ.1 4 0
  | 6 => i < 8
  | 7 => i = 0
  | 8 => i < 4
  | 9 => i < 3
  | 10 => i < 3 ∧ 0 < cnt σ i
  | 11 => i = 0
  | 12 => i ∈ marrs
  | 13 => i = 0
  | _ => False
def G (pr : Nat → Prop) (kc : Nat → ClassId) (e0 : Nat × Nat) (σ τ : Sg) (th : Int32) (o : Int64) (g : Gh) (M : Mp) : Prop :=
  (∀ t i, inR pr σ t i → M (g.1 t i) = some (gcell kc e0 σ τ th o g t i)) ∧
  (∀ t i t' i', inR pr σ t i → inR pr σ t' i' → g.1 t i = g.1 t' i' → t = t' ∧ i = i') ∧
  ∀ i, i < 3 → cnt σ i ≤ 200 ∧ (0 < cnt σ i → cnt σ i ≤ g.2.1 i ∧ 10 ≤ g.2.1 i ∧ g.2.1 i ≤ 200 ∧ ∀ j, j < cnt σ i → g.2.2.1 i j = some (g.1 (ltag i) j))
theorem cnt_eq {σ σ' : Sg} (h4 : σ'.1 4 0 = σ.1 4 0) (h11 : σ'.1 11 0 = σ.1 11 0) (h16 : σ'.1 16 0 = σ.1 16 0) (i : Nat) : cnt σ' i = cnt σ i := by simp [cnt, h4, h11, h16]
theorem inR_eq {pr : Nat → Prop} {σ σ' : Sg} (h4 : σ'.1 4 0 = σ.1 4 0) (h11 : σ'.1 11 0 = σ.1 11 0) (h16 : σ'.1 16 0 = σ.1 16 0) (t i : Nat) : inR pr σ' t i = inR pr σ t i := by
  unfold inR
  rw [h4, h11, h16, cnt_eq h4 h11 h16]
theorem G.ne {pr : Nat → Prop} {kc : Nat → ClassId} {e0 : Nat × Nat} {σ τ : Sg} {th : Int32} {o : Int64} {g : Gh} {M : Mp} (hG : G pr kc e0 σ τ th o g M) {t i t' i' : Nat} (h : inR pr σ t i) (h' : inR pr σ t' i') (hn : ¬ (t = t' ∧ i = i')) : g.1 t i ≠ g.1 t' i' := fun z => hn (hG.2.1 t i t' i' h h' z)
theorem G.upd {pr : Nat → Prop} {kc : Nat → ClassId} {e0 : Nat × Nat} {σ τ : Sg} {th : Int32} {o : Int64} {g : Gh} {M : Mp} (hG : G pr kc e0 σ τ th o g M) {t i : Nat} (hr : inR pr σ t i) {σ' τ' : Sg} {th' : Int32} {o' : Int64} {e : va_E} (he : e = gcell kc e0 σ' τ' th' o' g t i) (h4 : σ'.1 4 0 = σ.1 4 0) (h11 : σ'.1 11 0 = σ.1 11 0) (h16 : σ'.1 16 0 = σ.1 16 0)
    (ho : ∀ t' i', inR pr σ t' i' → ¬ (t' = t ∧ i' = i) → gcell kc e0 σ' τ' th' o' g t' i' = gcell kc e0 σ τ th o g t' i') : G pr kc e0 σ' τ' th' o' g (mu M (g.1 t i) e) := by
  refine ⟨fun t' i' h => ?_, fun t1 i1 t2 i2 h1 h2 => ?_, fun j hj => ?_⟩
  · rw [inR_eq h4 h11 h16] at h
    by_cases hz : t' = t ∧ i' = i
    · obtain ⟨z1, z2⟩ := hz
      subst z1; subst z2
      rw [mu_self, he]
    · rw [mu_ne _ _ (hG.ne h hr hz), ho t' i' h hz]
      exact hG.1 t' i' h
  · rw [inR_eq h4 h11 h16] at h1 h2
    exact hG.2.1 t1 i1 t2 i2 h1 h2
  · rw [cnt_eq h4 h11 h16]
    exact hG.2.2 j hj
theorem G.sig {pr : Nat → Prop} {kc : Nat → ClassId} {e0 : Nat × Nat} {σ τ : Sg} {th : Int32} {o : Int64} {g : Gh} {M : Mp} (hG : G pr kc e0 σ τ th o g M) {σ' τ' : Sg} {th' : Int32} {o' : Int64} (h4 : σ'.1 4 0 = σ.1 4 0) (h11 : σ'.1 11 0 = σ.1 11 0) (h16 : σ'.1 16 0 = σ.1 16 0)
    (ho : ∀ t' i', inR pr σ t' i' → gcell kc e0 σ' τ' th' o' g t' i' = gcell kc e0 σ τ th o g t' i') : G pr kc e0 σ' τ' th' o' g M := by
  refine ⟨fun t' i' h => ?_, fun t1 i1 t2 i2 h1 h2 => ?_, fun j hj => ?_⟩
  · rw [inR_eq h4 h11 h16] at h
    rw [ho t' i' h]
    exact hG.1 t' i' h
  · rw [inR_eq h4 h11 h16] at h1 h2
    exact hG.2.1 t1 i1 t2 i2 h1 h2
  · rw [cnt_eq h4 h11 h16]
    exact hG.2.2 j hj
/-- a cell that is not of the model does not look at the model's numbers -/
theorem gc_tau (kc : Nat → ClassId) (e0 : Nat × Nat) (σ τ τ' : Sg) (th th' : Int32) (o : Int64) (g : Gh) (t i : Nat) (h1 : t ≠ 11) (h2 : t ≠ 12) : gcell kc e0 σ τ' th' o g t i = gcell kc e0 σ τ th o g t i := by
  unfold gcell
  split <;> first | rfl | exact absurd rfl h1 | exact absurd rfl h2
def gdep (σ σ' : Sg) (t i : Nat) : Prop := match t with
  | 0 => σ'.2 0 i = σ.2 0 i ∧ σ'.2 1 i = σ.2 1 i
  | 1 => σ'.1 12 i = σ.1 12 i ∧ σ'.1 13 i = σ.1 13 i ∧ σ'.1 14 i = σ.1 14 i ∧ σ'.1 15 i = σ.1 15 i
  | 3 => σ'.1 18 i = σ.1 18 i ∧ σ'.1 19 i = σ.1 19 i ∧ σ'.1 17 i = σ.1 17 i ∧ cbl (σ'.1 17 i) (σ'.1 20 i) = cbl (σ.1 17 i) (σ.1 20 i)
  | 4 => σ'.1 2 i = σ.1 2 i ∧ σ'.1 3 i = σ.1 3 i
  | 5 => σ'.1 5 i = σ.1 5 i ∧ σ'.1 6 i = σ.1 6 i ∧ σ'.1 7 i = σ.1 7 i ∧ σ'.1 9 i = σ.1 9 i ∧ σ'.1 8 i = σ.1 8 i ∧ σ'.1 10 i = σ.1 10 i
  | 6 => σ'.1 1 i = σ.1 1 i
  | 7 => σ'.1 0 0 = σ.1 0 0
  | 9 => cnt σ' i = cnt σ i
  | _ => True
theorem gc_sig (kc : Nat → ClassId) (e0 : Nat × Nat) {σ σ' : Sg} (τ : Sg) (th : Int32) (o : Int64) (g : Gh) {t i : Nat} (h : gdep σ σ' t i) : gcell kc e0 σ' τ th o g t i = gcell kc e0 σ τ th o g t i := by
  unfold gdep at h
  unfold gcell
  split <;> first | rfl | (obtain ⟨a, b, c, d⟩ := h; rw [a, b, d, c]; done) | (simp_all [lar]; done) | simp_all
