/-! a list takes one more -/
abbrev agr (σ : Sg) (i : Nat) (g g' : Gh) : Prop := ∀ t k, t ≠ 10 → ¬ (t = ltag i ∧ k = cnt σ i) → g'.1 t k = g.1 t k
abbrev KG (g g' : Gh) : Prop := ∀ t k, t ≠ 1 → t ≠ 3 → t ≠ 5 → t ≠ 10 → g'.1 t k = g.1 t k
theorem KG.rf (g : Gh) : KG g g := fun _ _ _ _ _ _ => rfl
theorem ltag_v {i : Nat} (hi : i < 3) : ltag i = 5 ∨ ltag i = 1 ∨ ltag i = 3 := by
  rcases (show i = 0 ∨ i = 1 ∨ i = 2 by omega) with rfl | rfl | rfl <;> simp [ltag]
theorem agr.kg {σ : Sg} {i : Nat} {g g' : Gh} (hi : i < 3) (h : agr σ i g g') : KG g g' := fun t k h1 h3 h5 h10 => h t k h10 (fun z => by have := ltag_v hi; omega)
theorem lsOk_new {kc : Nat → ClassId} {e0 : Nat × Nat} {M : Mp} {ci ar ct z x : Nat} {f : Nat → Option Nat} {ce : va_E} (h : lsOk kc e0 M ci ar ct z f) (hx : M x = none) : lsOk kc e0 (mu M x ce) ci ar ct z f := by
  rcases h with h | ⟨h1, h2, h3, h4, h5, h6, h7⟩
  · exact Or.inl h
  · refine Or.inr ⟨h1, by rw [mu_ne _ _ (ne_fresh h2 hx)]; exact h2, h3, h4, h5, h6, fun j hj => ?_⟩
    obtain ⟨y, vs, k1, k2⟩ := h7 j hj
    exact ⟨y, vs, k1, by rw [mu_ne _ _ (ne_fresh k2 hx)]; exact k2⟩
theorem G.grow {pr : Nat → Prop} {kc : Nat → ClassId} {e0 : Nat × Nat} {σ τ : Sg} {th : Int32} {o : Int64} {g : Gh} {M : Mp} (hG : G pr kc e0 σ τ th o g M) {i x : Nat} (hi : i < 3) (hpr : ∀ t, t ≤ 10 → pr t) {σ' : Sg} {ce : va_E} {M1 : Mp} (hx : M x = none)
    (hadd : addP kc (mu M x ce) (g.1 9 i) x (cnt σ i) (g.2.2.2 i + nI 1) (lar e0 σ g i) (g.2.2.1 i) M1)
    (hc : cnt σ' i = cnt σ i + 1) (hc2 : ∀ k, k < 3 → k ≠ i → cnt σ' k = cnt σ k) (hlim : cnt σ i + 1 ≤ 200)
    (hN : ∀ t k, inR pr σ' t k → ¬ (t = ltag i ∧ k = cnt σ i) → ¬ (t = 10 ∧ k = i) → inR pr σ t k)
    (hcell : ∀ t k, inR pr σ t k → t ≠ 9 → t ≠ 10 → ∀ g', agr σ i g g' → gcell kc e0 σ' τ th o g' t k = gcell kc e0 σ τ th o g t k)
    (hce : ∀ g', agr σ i g g' → gcell kc e0 σ' τ th o g' (ltag i) (cnt σ i) = ce) :
    ∃ g', agr σ i g g' ∧ g'.1 (ltag i) (cnt σ i) = x ∧ G pr kc e0 σ' τ th o g' M1 := by
  obtain ⟨q, w, f2, a1, a2, a3, a4, a5, a6, a7, a8⟩ := hadd
  have hlt := ltag_v hi
  have h9 : M (g.1 9 i) = some (gcell kc e0 σ τ th o g 9 i) := hG.1 9 i ⟨hpr 9 (by decide), hi⟩
  have hxL : x ≠ g.1 9 i := Ne.symm (ne_fresh h9 hx)
  have hqold : q ≠ x ∧ ∀ t k, inR pr σ t k → ¬ (t = 10 ∧ k = i) → q ≠ g.1 t k := by
    rcases a8 with a8 | ⟨a8, a9⟩
    · by_cases e : q = x
      · rw [e, mu_self] at a8; cases a8
      · rw [mu_ne _ _ e] at a8
        exact ⟨e, fun t k h _ => Ne.symm (ne_fresh (hG.1 t k h) a8)⟩
    · have e : lar e0 σ g i = g.1 10 i := by unfold lar; rw [if_neg (by omega)]
      have hr : inR pr σ 10 i := ⟨hpr 10 (by decide), hi, a8⟩
      rw [a9, e]
      exact ⟨ne_fresh (hG.1 10 i hr) hx, fun t k h hn => hG.ne hr h (fun z => hn ⟨z.1.symm, z.2.symm⟩)⟩
  have hold : ∀ t k, inR pr σ t k → ¬ (t = 10 ∧ k = i) → ¬ (t = 9 ∧ k = i) → M1 (g.1 t k) = some (gcell kc e0 σ τ th o g t k) := by
    intro t k h h1 h2
    have hc9 := hG.1 t k h
    have e1 : g.1 t k ≠ g.1 9 i := hG.ne h ⟨hpr 9 (by decide), hi⟩ h2
    rw [a1, mu_ne _ _ e1, mu_ne _ _ (Ne.symm (hqold.2 t k h h1)), mu_ne _ _ (ne_fresh hc9 hx)]
    exact hc9
  obtain ⟨g', hg'⟩ : ∃ g' : Gh, g' = (fun t k => if t = ltag i ∧ k = cnt σ i then x else if t = 10 ∧ k = i then q else g.1 t k, fun k => if k = i then w else g.2.1 k, fun k => if k = i then f2 else g.2.2.1 k, fun k => if k = i then g.2.2.2 i + nI 1 else g.2.2.2 k) := ⟨_, rfl⟩
  have gN : g'.1 (ltag i) (cnt σ i) = x := by rw [hg']; simp
  have gR : g'.1 10 i = q := by rw [hg']; simp; omega
  have gO : ∀ t k, ¬ (t = ltag i ∧ k = cnt σ i) → ¬ (t = 10 ∧ k = i) → g'.1 t k = g.1 t k := by
    intro t k h1 h2; rw [hg']; show (if _ then _ else _) = _; rw [if_neg h1, if_neg h2]
  have hag : agr σ i g g' := fun t k h1 h2 => gO t k h2 (fun z => h1 z.1)
  have hlar : lar e0 σ' g' i = q := by unfold lar; rw [hc, if_neg (by omega)]; exact gR
  refine ⟨g', hag, gN, fun t k h => ?_, fun t1 k1 t2 k2 h1 h2 he => ?_, fun k hk => ?_⟩
  · by_cases e1 : t = ltag i ∧ k = cnt σ i
    · obtain ⟨e1, e2⟩ := e1; subst e1; subst e2
      rw [gN, hce g' hag, a1, mu_ne _ _ hxL, mu_ne _ _ (Ne.symm hqold.1), mu_self]
    · by_cases e2 : t = 10 ∧ k = i
      · obtain ⟨e3, e4⟩ := e2; subst e3; subst e4
        rw [gR, a1, mu_ne _ _ a7, mu_self, hg']
        simp [gcell]
      · have hr := hN t k h e1 e2
        rw [gO t k e1 e2]
        by_cases e3 : t = 9 ∧ k = i
        · obtain ⟨e3, e4⟩ := e3; subst e3; subst e4
          rw [a1, mu_self]
          have e5 : g'.2.2.2 k = g.2.2.2 k + nI 1 := by rw [hg']; simp
          show _ = some (Sum.inr (0, [Value.int (g'.2.2.2 k), .ref (lar e0 σ' g' k), .int (nI (cnt σ' k))]))
          rw [hlar, hc, e5]
        · rw [hold t k hr e2 e3]
          by_cases e4 : t = 9
          · subst e4
            have hk3 : k < 3 := hr.2
            have hki : k ≠ i := fun z => e3 ⟨rfl, z⟩
            have e5 : g'.2.2.2 k = g.2.2.2 k := by rw [hg']; simp [hki]
            have e6 : lar e0 σ' g' k = lar e0 σ g k := by
              unfold lar; rw [hc2 k hk3 hki, gO 10 k (fun z => by omega) (fun z => hki z.2)]
            show some (Sum.inr (0, [Value.int (g.2.2.2 k), .ref (lar e0 σ g k), .int (nI (cnt σ k))])) = some (Sum.inr (0, [Value.int (g'.2.2.2 k), .ref (lar e0 σ' g' k), .int (nI (cnt σ' k))]))
            rw [e5, e6, hc2 k hk3 hki]
          · by_cases e5 : t = 10
            · subst e5
              have hki : k ≠ i := fun z => e2 ⟨rfl, z⟩
              have e6 : g'.2.1 k = g.2.1 k := by rw [hg']; simp [hki]
              have e7 : g'.2.2.1 k = g.2.2.1 k := by rw [hg']; simp [hki]
              show some (qrow (kc 7) (g.2.1 k) (g.2.2.1 k)) = some (qrow (kc 7) (g'.2.1 k) (g'.2.2.1 k))
              rw [e6, e7]
            · rw [hcell t k hr e4 e5 g' hag]
  · have hxo : ∀ t k, inR pr σ t k → g.1 t k ≠ x := fun t k h => ne_fresh (hG.1 t k h) hx
    by_cases n1 : t1 = ltag i ∧ k1 = cnt σ i
    · by_cases n2 : t2 = ltag i ∧ k2 = cnt σ i
      · exact ⟨by rw [n1.1, n2.1], by rw [n1.2, n2.2]⟩
      · exfalso
        rw [n1.1, n1.2, gN] at he
        by_cases r2 : t2 = 10 ∧ k2 = i
        · rw [r2.1, r2.2, gR] at he; exact hqold.1 he.symm
        · rw [gO _ _ n2 r2] at he; exact hxo _ _ (hN _ _ h2 n2 r2) he.symm
    · by_cases r1 : t1 = 10 ∧ k1 = i
      · by_cases n2 : t2 = ltag i ∧ k2 = cnt σ i
        · exfalso; rw [n2.1, n2.2, gN, r1.1, r1.2, gR] at he; exact hqold.1 he
        · by_cases r2 : t2 = 10 ∧ k2 = i
          · exact ⟨by rw [r1.1, r2.1], by rw [r1.2, r2.2]⟩
          · exfalso; rw [r1.1, r1.2, gR, gO _ _ n2 r2] at he; exact hqold.2 _ _ (hN _ _ h2 n2 r2) r2 he
      · rw [gO _ _ n1 r1] at he
        by_cases n2 : t2 = ltag i ∧ k2 = cnt σ i
        · exfalso; rw [n2.1, n2.2, gN] at he; exact hxo _ _ (hN _ _ h1 n1 r1) he
        · by_cases r2 : t2 = 10 ∧ k2 = i
          · exfalso; rw [r2.1, r2.2, gR] at he; exact hqold.2 _ _ (hN _ _ h1 n1 r1) r1 he.symm
          · rw [gO _ _ n2 r2] at he
            exact hG.2.1 _ _ _ _ (hN _ _ h1 n1 r1) (hN _ _ h2 n2 r2) he
  · by_cases e : k = i
    · subst e
      have e6 : g'.2.1 k = w := by rw [hg']; simp
      have e7 : g'.2.2.1 k = f2 := by rw [hg']; simp
      rw [hc, e6, e7]
      refine ⟨hlim, fun _ => ⟨a4, a5, a6, fun j hj => ?_⟩⟩
      by_cases ej : j = cnt σ k
      · rw [ej, a3, gN]
      · rw [a2 j (by omega), gO _ _ (fun z => ej z.2) (fun z => by omega)]
        exact ((hG.2.2 k hk).2 (by omega)).2.2.2 j (by omega)
    · have e6 : g'.2.1 k = g.2.1 k := by rw [hg']; simp [e]
      have e7 : g'.2.2.1 k = g.2.2.1 k := by rw [hg']; simp [e]
      rw [hc2 k hk e, e6, e7]
      refine ⟨(hG.2.2 k hk).1, fun h0 => ?_⟩
      obtain ⟨b1, b2, b3, b4⟩ := (hG.2.2 k hk).2 h0
      refine ⟨b1, b2, b3, fun j hj => ?_⟩
      have hlk := ltag_v hk
      have hne : ltag k ≠ ltag i := by
        rcases (show i = 0 ∨ i = 1 ∨ i = 2 by omega) with rfl | rfl | rfl <;> rcases (show k = 0 ∨ k = 1 ∨ k = 2 by omega) with rfl | rfl | rfl <;> simp [ltag] at e ⊢
      rw [b4 j hj, gO _ _ (fun z => hne z.1) (fun z => by omega)]
/-- the three lists -/
theorem gc_gh (kc : Nat → ClassId) (e0 : Nat × Nat) (σ τ : Sg) (th : Int32) (o : Int64) {g g' : Gh} {i n t k : Nat} (hi : i < 3) (hg : ∀ t k, t ≠ 10 → ¬ (t = ltag i ∧ k = n) → g'.1 t k = g.1 t k) (h1 : t = 1 → ¬ (5 = ltag i ∧ σ.1 12 k = n)) (h3 : t = 3 → ¬ (1 = ltag i ∧ σ.1 18 k = n)) (h9 : t ≠ 9) (h10 : t ≠ 10) : gcell kc e0 σ τ th o g' t k = gcell kc e0 σ τ th o g t k := by
  have hl := ltag_v hi
  have z : ∀ t k, t ≠ 1 → t ≠ 3 → t ≠ 5 → t ≠ 10 → g'.1 t k = g.1 t k := fun t k a b c d => hg t k d (fun q => by omega)
  unfold gcell
  split
  · rfl
  · rw [hg 5 _ (by decide) (h1 rfl)]
  · rw [z 0 _ (by decide) (by decide) (by decide) (by decide)]
  · rw [hg 1 _ (by decide) (h3 rfl)]
  · rfl
  · rw [z 2 _ (by decide) (by decide) (by decide) (by decide), z 6 _ (by decide) (by decide) (by decide) (by decide)]
  · rw [z 0 _ (by decide) (by decide) (by decide) (by decide), z 4 _ (by decide) (by decide) (by decide) (by decide)]
  · simp only [z 8 _ (by decide) (by decide) (by decide) (by decide), z 9 _ (by decide) (by decide) (by decide) (by decide)]
  · have e : ∀ j, g'.1 (rtag k) j = g.1 (rtag k) j := fun j => by
      have hr : rtag k = 0 ∨ rtag k = 4 ∨ rtag k = 6 ∨ rtag k = 2 := by by_cases b0 : k = 0 <;> by_cases b1 : k = 1 <;> by_cases b2 : k = 2 <;> simp [rtag, b0, b1, b2]
      exact z _ _ (by omega) (by omega) (by omega) (by omega)
    simp only [e]
  · exact absurd rfl h9
  · exact absurd rfl h10
  · simp only [mobj, z 12 _ (by decide) (by decide) (by decide) (by decide)]
  · rfl
  · rfl
theorem G.growP {pr : Nat → Prop} {kc : Nat → ClassId} {e0 : Nat × Nat} {σ τ : Sg} {th : Int32} {o : Int64} {g : Gh} {M : Mp} {nn : Nat} (hG : G pr kc e0 σ τ th o g M) (hwf : WS nn σ) (hpr : ∀ t, t ≤ 10 → pr t) {x cd sh v : Nat} {M1 : Mp} (hx : M x = none)
    (hadd : addP kc (mu M x (.inr (6, [.int (nI (nP σ)), .ref (g.1 2 cd), .ref (g.1 6 sh), .int (nI v), .int (nI (tD σ + 7)), .int (nI 0), .int (nI 0)]))) (g.1 9 0) x (nP σ) (g.2.2.2 0 + nI 1) (lar e0 σ g 0) (g.2.2.1 0) M1) : ∃ g', KG g g' ∧ (∀ t k, t ≠ 10 → ¬ (t = 5 ∧ k = nP σ) → g'.1 t k = g.1 t k) ∧ g'.1 5 (nP σ) = x ∧ G pr kc e0 (addPay σ cd sh v) τ th o g' M1 := by
  have hw := hwf.2.2.2.1
  have hc2 : ∀ k, k < 3 → k ≠ 0 → cnt (addPay σ cd sh v) k = cnt σ k := by
    intro k hk hk0
    have hk9 : k = 1 ∨ k = 2 := by omega
    rcases hk9 with h | h <;> (subst h; rfl)
  have hN : ∀ t k, inR pr (addPay σ cd sh v) t k → ¬ (t = 5 ∧ k = nP σ) → ¬ (t = 10 ∧ k = 0) → inR pr σ t k := by
    intro t k h h1 h2
    refine ⟨h.1, ?_⟩
    have h := h.2
    match t with
    | 0 => exact h
    | 1 => exact h
    | 2 => exact h
    | 3 => exact h
    | 4 => exact h
    | 5 => have h3 : k < nP σ + 1 := h; show k < nP σ; omega
    | 6 => exact h
    | 7 => exact h
    | 8 => exact h
    | 9 => exact h
    | 10 => exact ⟨h.1, by have := h.2; rw [hc2 k h.1 (fun z => h2 ⟨rfl, z⟩)] at this; exact this⟩
    | 11 => exact h
    | 12 => exact h
    | 13 => exact h
    | t + 14 => exact h
  have hS : ∀ t k, inR pr σ t k → t ≠ 9 → t ≠ 10 → gcell kc e0 (addPay σ cd sh v) τ th o g t k = gcell kc e0 σ τ th o g t k := by
    intro t k hr h9 h10
    refine gc_sig kc e0 τ th o g ?_
    have hr := hr.2
    match t with
    | 0 => exact ⟨rfl, rfl⟩
    | 1 => exact ⟨rfl, rfl, rfl, rfl⟩
    | 2 => trivial
    | 3 => exact ⟨rfl, rfl, rfl, rfl⟩
    | 4 => exact ⟨rfl, rfl⟩
    | 5 => have hr : k < nP σ := hr; have e : k ≠ σ.1 4 0 := fun z => by subst z; exact Nat.lt_irrefl _ hr
           simp [gdep, up2, nP, e, addPay]
    | 6 => rfl
    | 7 => rfl
    | 8 => trivial
    | 9 => exact absurd rfl h9
    | 10 => trivial
    | 11 => trivial
    | 12 => trivial
    | 13 => trivial
    | t + 14 => trivial
  have hcell : ∀ t k, inR pr σ t k → t ≠ 9 → t ≠ 10 → ∀ g', agr σ 0 g g' → gcell kc e0 (addPay σ cd sh v) τ th o g' t k = gcell kc e0 σ τ th o g t k := by
    intro t k hr h9 h10 g' ha
    rw [← hS t k hr h9 h10]
    refine gc_gh kc e0 (addPay σ cd sh v) τ th o (i := 0) (n := cnt σ 0) (by decide) ha (fun e => ?_) (fun e => ?_) h9 h10
    · subst e
      have := (hwf.2.2.2.2.2.2.1 k hr.2).1; intro z; have z2 : σ.1 12 k = nP σ := z.2; omega
    · subst e
      exact fun z => absurd z.1 (by decide)
  have hce : ∀ g', agr σ 0 g g' → gcell kc e0 (addPay σ cd sh v) τ th o g' (ltag 0) (cnt σ 0) = .inr (6, [.int (nI (nP σ)), .ref (g.1 2 cd), .ref (g.1 6 sh), .int (nI v), .int (nI (tD σ + 7)), .int (nI 0), .int (nI 0)]) := by
    intro g' ha
    have h0 := hwf.2.2.2.2.2.1 (nP σ) (Nat.le_refl _)
    show gcell kc e0 (addPay σ cd sh v) τ th o g' 5 (nP σ) = _
    simp only [gcell]
    rw [ha 2 _ (by decide) (fun z => absurd z.1 (by decide)), ha 6 _ (by decide) (fun z => absurd z.1 (by decide))]
    have e8 : (addPay σ cd sh v).1 8 (nP σ) = 0 := by rw [← h0.1]; simp [addPay, up2]
    have e10 : (addPay σ cd sh v).1 10 (nP σ) = 0 := by rw [← h0.2]; simp [addPay, up2]
    rw [e8, e10]
    simp [addPay, up2]
  obtain ⟨g', a1, a2, a3⟩ := hG.grow (i := 0) (by decide) hpr (σ' := addPay σ cd sh v) hx hadd rfl hc2 (show nP σ + 1 ≤ 200 by omega) hN hcell hce
  exact ⟨g', a1.kg (by decide), a1, a2, a3⟩
theorem G.growC {pr : Nat → Prop} {kc : Nat → ClassId} {e0 : Nat × Nat} {σ τ : Sg} {th : Int32} {o : Int64} {g : Gh} {M : Mp} {nn : Nat} (hG : G pr kc e0 σ τ th o g M) (hwf : WS nn σ) (hpr : ∀ t, t ≤ 10 → pr t) {x j v fe : Nat} {M1 : Mp} (hx : M x = none) (hj : j < nP σ)
    (hadd : addP kc (mu M x (.inr (2, [.int (nI (nC σ)), .ref (g.1 5 j), .int (nI v), .int (nI fe), .int (nI 0)]))) (g.1 9 1) x (nC σ) (g.2.2.2 1 + nI 1) (lar e0 σ g 1) (g.2.2.1 1) M1) : ∃ g', KG g g' ∧ (∀ t k, t ≠ 10 → ¬ (t = 1 ∧ k = nC σ) → g'.1 t k = g.1 t k) ∧ g'.1 1 (nC σ) = x ∧ G pr kc e0 ((up2 (up2 (up2 (up2 σ.1 12 (nC σ) j) 13 (nC σ) v) 14 (nC σ) fe) 11 0 (nC σ + 1), σ.2)) τ th o g' M1 := by
  have hw := hwf.2.2.2.1
  have hc2 : ∀ k, k < 3 → k ≠ 1 → cnt ((up2 (up2 (up2 (up2 σ.1 12 (nC σ) j) 13 (nC σ) v) 14 (nC σ) fe) 11 0 (nC σ + 1), σ.2)) k = cnt σ k := by
    intro k hk hk0
    have hk9 : k = 0 ∨ k = 2 := by omega
    rcases hk9 with h | h <;> (subst h; rfl)
  have hN : ∀ t k, inR pr ((up2 (up2 (up2 (up2 σ.1 12 (nC σ) j) 13 (nC σ) v) 14 (nC σ) fe) 11 0 (nC σ + 1), σ.2)) t k → ¬ (t = 1 ∧ k = nC σ) → ¬ (t = 10 ∧ k = 1) → inR pr σ t k := by
    intro t k h h1 h2
    refine ⟨h.1, ?_⟩
    have h := h.2
    match t with
    | 0 => exact h
    | 1 => have h3 : k < nC σ + 1 := h; show k < nC σ; omega
    | 2 => exact h
    | 3 => exact h
    | 4 => exact h
    | 5 => exact h
    | 6 => exact h
    | 7 => exact h
    | 8 => exact h
    | 9 => exact h
    | 10 => exact ⟨h.1, by have := h.2; rw [hc2 k h.1 (fun z => h2 ⟨rfl, z⟩)] at this; exact this⟩
    | 11 => exact h
    | 12 => exact h
    | 13 => exact h
    | t + 14 => exact h
  have hS : ∀ t k, inR pr σ t k → t ≠ 9 → t ≠ 10 → gcell kc e0 ((up2 (up2 (up2 (up2 σ.1 12 (nC σ) j) 13 (nC σ) v) 14 (nC σ) fe) 11 0 (nC σ + 1), σ.2)) τ th o g t k = gcell kc e0 σ τ th o g t k := by
    intro t k hr h9 h10
    refine gc_sig kc e0 τ th o g ?_
    have hr := hr.2
    match t with
    | 0 => exact ⟨rfl, rfl⟩
    | 1 => have hr : k < nC σ := hr; have e : k ≠ σ.1 11 0 := fun z => by subst z; exact Nat.lt_irrefl _ hr
           simp [gdep, up2, nC, e]
    | 2 => trivial
    | 3 => exact ⟨rfl, rfl, rfl, rfl⟩
    | 4 => exact ⟨rfl, rfl⟩
    | 5 => exact ⟨rfl, rfl, rfl, rfl, rfl, rfl⟩
    | 6 => rfl
    | 7 => rfl
    | 8 => trivial
    | 9 => exact absurd rfl h9
    | 10 => trivial
    | 11 => trivial
    | 12 => trivial
    | 13 => trivial
    | t + 14 => trivial
  have hcell : ∀ t k, inR pr σ t k → t ≠ 9 → t ≠ 10 → ∀ g', agr σ 1 g g' → gcell kc e0 ((up2 (up2 (up2 (up2 σ.1 12 (nC σ) j) 13 (nC σ) v) 14 (nC σ) fe) 11 0 (nC σ + 1), σ.2)) τ th o g' t k = gcell kc e0 σ τ th o g t k := by
    intro t k hr h9 h10 g' ha
    rw [← hS t k hr h9 h10]
    refine gc_gh kc e0 ((up2 (up2 (up2 (up2 σ.1 12 (nC σ) j) 13 (nC σ) v) 14 (nC σ) fe) 11 0 (nC σ + 1), σ.2)) τ th o (i := 1) (n := cnt σ 1) (by decide) ha (fun e => ?_) (fun e => ?_) h9 h10
    · subst e
      exact fun z => absurd z.1 (by decide)
    · subst e
      have := (hwf.2.2.2.2.2.2.2.2 k hr.2).2.1; intro z; have z2 : σ.1 18 k = nC σ := z.2; omega
  have hce : ∀ g', agr σ 1 g g' → gcell kc e0 ((up2 (up2 (up2 (up2 σ.1 12 (nC σ) j) 13 (nC σ) v) 14 (nC σ) fe) 11 0 (nC σ + 1), σ.2)) τ th o g' (ltag 1) (cnt σ 1) = .inr (2, [.int (nI (nC σ)), .ref (g.1 5 j), .int (nI v), .int (nI fe), .int (nI 0)]) := by
    intro g' ha
    have h0 := hwf.2.2.2.2.2.2.2.1 (nC σ) (Nat.le_refl _)
    show gcell kc e0 ((up2 (up2 (up2 (up2 σ.1 12 (nC σ) j) 13 (nC σ) v) 14 (nC σ) fe) 11 0 (nC σ + 1), σ.2)) τ th o g' 1 (nC σ) = _
    simp only [gcell]
    rw [ha 5 _ (by decide) (fun z => absurd z.1 (by decide))]
    simp [up2, h0]
  obtain ⟨g', a1, a2, a3⟩ := hG.grow (i := 1) (by decide) hpr (σ' := (up2 (up2 (up2 (up2 σ.1 12 (nC σ) j) 13 (nC σ) v) 14 (nC σ) fe) 11 0 (nC σ + 1), σ.2)) hx hadd rfl hc2 (show nC σ + 1 ≤ 200 by omega) hN hcell hce
  exact ⟨g', a1.kg (by decide), a1, a2, a3⟩
theorem G.growB {pr : Nat → Prop} {kc : Nat → ClassId} {e0 : Nat × Nat} {σ τ : Sg} {th : Int32} {o : Int64} {g : Gh} {M : Mp} {nn : Nat} (hG : G pr kc e0 σ τ th o g M) (hwf : WS nn σ) (hpr : ∀ t, t ≤ 10 → pr t) {x k0 v u : Nat} {M1 : Mp} (hx : M x = none) (hk0 : k0 < nC σ)
    (hadd : addP kc (mu M x (.inr (4, [.int (nI (nB σ)), .ref (g.1 1 k0), .int (nI v), .int (nI 0), .int (nI u)]))) (g.1 9 2) x (nB σ) (g.2.2.2 2 + nI 1) (lar e0 σ g 2) (g.2.2.1 2) M1) : ∃ g', KG g g' ∧ (∀ t k, t ≠ 10 → ¬ (t = 3 ∧ k = nB σ) → g'.1 t k = g.1 t k) ∧ g'.1 3 (nB σ) = x ∧ G pr kc e0 ((up2 (up2 (up2 (up2 (up2 σ.1 17 (nB σ) 0) 18 (nB σ) k0) 19 (nB σ) v) 20 (nB σ) u) 16 0 (nB σ + 1), σ.2)) τ th o g' M1 := by
  have hw := hwf.2.2.2.1
  have hc2 : ∀ k, k < 3 → k ≠ 2 → cnt ((up2 (up2 (up2 (up2 (up2 σ.1 17 (nB σ) 0) 18 (nB σ) k0) 19 (nB σ) v) 20 (nB σ) u) 16 0 (nB σ + 1), σ.2)) k = cnt σ k := by
    intro k hk hk0
    have hk9 : k = 0 ∨ k = 1 := by omega
    rcases hk9 with h | h <;> (subst h; rfl)
  have hN : ∀ t k, inR pr ((up2 (up2 (up2 (up2 (up2 σ.1 17 (nB σ) 0) 18 (nB σ) k0) 19 (nB σ) v) 20 (nB σ) u) 16 0 (nB σ + 1), σ.2)) t k → ¬ (t = 3 ∧ k = nB σ) → ¬ (t = 10 ∧ k = 2) → inR pr σ t k := by
    intro t k h h1 h2
    refine ⟨h.1, ?_⟩
    have h := h.2
    match t with
    | 0 => exact h
    | 1 => exact h
    | 2 => exact h
    | 3 => have h3 : k < nB σ + 1 := h; show k < nB σ; omega
    | 4 => exact h
    | 5 => exact h
    | 6 => exact h
    | 7 => exact h
    | 8 => exact h
    | 9 => exact h
    | 10 => exact ⟨h.1, by have := h.2; rw [hc2 k h.1 (fun z => h2 ⟨rfl, z⟩)] at this; exact this⟩
    | 11 => exact h
    | 12 => exact h
    | 13 => exact h
    | t + 14 => exact h
  have hS : ∀ t k, inR pr σ t k → t ≠ 9 → t ≠ 10 → gcell kc e0 ((up2 (up2 (up2 (up2 (up2 σ.1 17 (nB σ) 0) 18 (nB σ) k0) 19 (nB σ) v) 20 (nB σ) u) 16 0 (nB σ + 1), σ.2)) τ th o g t k = gcell kc e0 σ τ th o g t k := by
    intro t k hr h9 h10
    refine gc_sig kc e0 τ th o g ?_
    have hr := hr.2
    match t with
    | 0 => exact ⟨rfl, rfl⟩
    | 1 => exact ⟨rfl, rfl, rfl, rfl⟩
    | 2 => trivial
    | 3 => have hr : k < nB σ := hr; have e : k ≠ σ.1 16 0 := fun z => by subst z; exact Nat.lt_irrefl _ hr
           simp [gdep, up2, nB, e]
    | 4 => exact ⟨rfl, rfl⟩
    | 5 => exact ⟨rfl, rfl, rfl, rfl, rfl, rfl⟩
    | 6 => rfl
    | 7 => rfl
    | 8 => trivial
    | 9 => exact absurd rfl h9
    | 10 => trivial
    | 11 => trivial
    | 12 => trivial
    | 13 => trivial
    | t + 14 => trivial
  have hcell : ∀ t k, inR pr σ t k → t ≠ 9 → t ≠ 10 → ∀ g', agr σ 2 g g' → gcell kc e0 ((up2 (up2 (up2 (up2 (up2 σ.1 17 (nB σ) 0) 18 (nB σ) k0) 19 (nB σ) v) 20 (nB σ) u) 16 0 (nB σ + 1), σ.2)) τ th o g' t k = gcell kc e0 σ τ th o g t k := by
    intro t k hr h9 h10 g' ha
    rw [← hS t k hr h9 h10]
    refine gc_gh kc e0 ((up2 (up2 (up2 (up2 (up2 σ.1 17 (nB σ) 0) 18 (nB σ) k0) 19 (nB σ) v) 20 (nB σ) u) 16 0 (nB σ + 1), σ.2)) τ th o (i := 2) (n := cnt σ 2) (by decide) ha (fun e => ?_) (fun e => ?_) h9 h10
    · subst e
      exact fun z => absurd z.1 (by decide)
    · subst e
      exact fun z => absurd z.1 (by decide)
  have hce : ∀ g', agr σ 2 g g' → gcell kc e0 ((up2 (up2 (up2 (up2 (up2 σ.1 17 (nB σ) 0) 18 (nB σ) k0) 19 (nB σ) v) 20 (nB σ) u) 16 0 (nB σ + 1), σ.2)) τ th o g' (ltag 2) (cnt σ 2) = .inr (4, [.int (nI (nB σ)), .ref (g.1 1 k0), .int (nI v), .int (nI 0), .int (nI u)]) := by
    intro g' ha
    show gcell kc e0 ((up2 (up2 (up2 (up2 (up2 σ.1 17 (nB σ) 0) 18 (nB σ) k0) 19 (nB σ) v) 20 (nB σ) u) 16 0 (nB σ + 1), σ.2)) τ th o g' 3 (nB σ) = _
    simp only [gcell]
    rw [ha 1 _ (by decide) (fun z => absurd z.1 (by decide))]
    simp [up2, cbl]
  obtain ⟨g', a1, a2, a3⟩ := hG.grow (i := 2) (by decide) hpr (σ' := (up2 (up2 (up2 (up2 (up2 σ.1 17 (nB σ) 0) 18 (nB σ) k0) 19 (nB σ) v) 20 (nB σ) u) 16 0 (nB σ + 1), σ.2)) hx hadd rfl hc2 (show nB σ + 1 ≤ 200 by omega) hN hcell hce
  exact ⟨g', a1.kg (by decide), a1, a2, a3⟩
