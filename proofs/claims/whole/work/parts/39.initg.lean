/-! what the constructor of the class makes: f says how far each of the four rows is filled -/
def icell (kc : Nat → ClassId) (e0 : Nat × Nat) (f : Nat → Nat) (ad : Nat → Nat → Nat) (t i : Nat) : va_E := match t with
  | 0 => .inr (1, [.long (lI 0), .long (lI 0)])
  | 2 => .inr (3, [.int (nI i), .ref (ad 0 (i / 3))])
  | 4 => .inr (5, [.int (nI i), .int (nI 10), .int (nI 500)])
  | 6 => .inr (7, [.int (nI i), .ref (ad 0 (i % 4)), .ref (ad 4 0)])
  | 7 => .inr (8, [.ref (ad 8 0), .ref (ad 8 1), .ref (ad 8 2), .ref (ad 8 3), .ref (ad 9 0), .ref (ad 9 1), .ref (ad 9 2), .int (nI 0)])
  | 8 => qrow (kc (3 + i)) (rlen i) (fun j => if j < f i then some (ad (rtag i) j) else none)
  | _ => .inr (0, [.int (nI 0), .ref e0.1, .int (nI 0)])
def inI (f : Nat → Nat) (t i : Nat) : Prop := match t with
  | 0 => i < f 0
  | 2 => i < f 3
  | 4 => i < f 1
  | 6 => i < f 2
  | 7 => i = 0
  | 8 => i < 4
  | 9 => i < 3
  | _ => False
def PI (kc : Nat → ClassId) (e0 : Nat × Nat) (f : Nat → Nat) (ad : Nat → Nat → Nat) (M : Mp) : Prop :=
  (∀ t i, inI f t i → M (ad t i) = some (icell kc e0 f ad t i)) ∧ (∀ t i t' i', inI f t i → inI f t' i' → ad t i = ad t' i' → t = t' ∧ i = i')
/-- all that was there is there yet, but for one -/
def KP (M M1 : Mp) (h0 : Nat) : Prop := ∀ x e, M x = some e → x ≠ h0 → M1 x = some e
theorem KP.rf (M : Mp) (h0 : Nat) : KP M M h0 := fun _ _ h _ => h
theorem KP.tr {M M1 M2 : Mp} {h0 : Nat} (h1 : KP M M1 h0) (h2 : KP M1 M2 h0) : KP M M2 h0 := fun x e h hn => h2 x e (h1 x e h hn) hn
def fU (f : Nat → Nat) (r : Nat) : Nat → Nat := fun k => if k = r then f k + 1 else f k
theorem rtag_v {r : Nat} (h : r < 4) : rtag r = 0 ∨ rtag r = 4 ∨ rtag r = 6 ∨ rtag r = 2 := by
  by_cases b0 : r = 0 <;> by_cases b1 : r = 1 <;> by_cases b2 : r = 2 <;> simp [rtag, b0, b1, b2]
theorem inI_rtag {f : Nat → Nat} {r i : Nat} (h : r < 4) : inI f (rtag r) i ↔ i < f r := by
  rcases (show r = 0 ∨ r = 1 ∨ r = 2 ∨ r = 3 by omega) with rfl | rfl | rfl | rfl <;> rfl
theorem PI.add {kc : Nat → ClassId} {e0 : Nat × Nat} {f : Nat → Nat} {ad : Nat → Nat → Nat} {M : Mp} (h : PI kc e0 f ad M) {r q : Nat} (hr : r < 4) (hfr : f r < rlen r) (hq : M q = none) {c : va_E}
    (hc : ∀ ad' : Nat → Nat → Nat, (∀ t i, ¬ (t = rtag r ∧ i = f r) → ad' t i = ad t i) → icell kc e0 (fU f r) ad' (rtag r) (f r) = c)
    (hold : (r = 0 → f 2 = 0 ∧ f 3 = 0) ∧ (r = 1 → f 2 = 0)) {M1 : Mp} {M9 : Mp}
    (h9 : M9 = mu M q c) (h1 : M1 = mu M9 (ad 8 r) (qrow (kc (3 + r)) (rlen r) (va_up (fun j => if j < f r then some (ad (rtag r) j) else none) (f r) (some q)))) :
    ∃ ad', (∀ t i, ¬ (t = rtag r ∧ i = f r) → ad' t i = ad t i) ∧ PI kc e0 (fU f r) ad' M1 ∧ (∀ x e, M x = some e → x ≠ ad 8 r → M1 x = some e) := by
  have hrt := rtag_v hr
  obtain ⟨ad', had⟩ : ∃ ad' : Nat → Nat → Nat, ad' = fun t i => if t = rtag r ∧ i = f r then q else ad t i := ⟨_, rfl⟩
  have aN : ad' (rtag r) (f r) = q := by rw [had]; simp
  have aO : ∀ t i, ¬ (t = rtag r ∧ i = f r) → ad' t i = ad t i := fun t i hn => by rw [had]; exact if_neg hn
  have h8 : M (ad 8 r) = some (icell kc e0 f ad 8 r) := h.1 8 r hr
  have hq8 : q ≠ ad 8 r := Ne.symm (ne_fresh h8 hq)
  have hin : ∀ t i, inI (fU f r) t i → ¬ (t = rtag r ∧ i = f r) → inI f t i := by
    intro t i ht hn
    rcases (show r = 0 ∨ r = 1 ∨ r = 2 ∨ r = 3 by omega) with rfl | rfl | rfl | rfl
    all_goals
      revert ht hn
      unfold inI
      split <;> simp only [fU, rtag] <;> simp <;> omega
  have hkeep : ∀ x e, M x = some e → x ≠ ad 8 r → M1 x = some e := fun x e hx hn => by
    rw [h1, mu_ne _ _ hn, h9, mu_ne _ _ (ne_fresh hx hq)]; exact hx
  refine ⟨ad', aO, ⟨fun t i ht => ?_, fun t i t' i' ht ht' he => ?_⟩, hkeep⟩
  · by_cases en : t = rtag r ∧ i = f r
    · obtain ⟨e1, e2⟩ := en; subst e1; subst e2
      rw [aN, hc ad' aO, h1, mu_ne _ _ hq8, h9, mu_self]
    · have hi := hin t i ht en
      by_cases e8 : t = 8 ∧ i = r
      · obtain ⟨e1, e2⟩ := e8; subst e1; subst e2
        rw [aO 8 i en, h1, mu_self]
        show _ = some (qrow (kc (3 + i)) (rlen i) (fun j => if j < fU f i i then some (ad' (rtag i) j) else none))
        congr 6
        funext j
        have ef : fU f i i = f i + 1 := by simp [fU]
        rw [ef]
        by_cases ej : j = f i
        · subst ej; rw [va_up_self, if_pos (by omega), aN]
        · rw [va_up_ne _ _ ej]
          by_cases ej2 : j < f i
          · rw [if_pos ej2, if_pos (by omega), aO _ _ (fun z => ej z.2)]
          · rw [if_neg ej2, if_neg (by omega)]
      · have h88 : inI f 8 r := hr
        rw [aO t i en, hkeep _ _ (h.1 t i hi) (fun z => e8 (h.2 t i 8 r hi h88 z))]
        have z0 : ∀ u v, u ≠ 0 → u ≠ 4 → u ≠ 6 → u ≠ 2 → ad' u v = ad u v := fun u v c0 c4 c6 c2 => aO u v (fun z => by omega)
        match t with
        | 0 => rfl
        | 1 => exact absurd hi id
        | 2 =>
          have e : ad' 0 (i / 3) = ad 0 (i / 3) := aO _ _ (fun z => by
            have hr0 : r = 0 := by
              rcases (show r = 0 ∨ r = 1 ∨ r = 2 ∨ r = 3 by omega) with rfl | rfl | rfl | rfl
              · rfl
              · exact absurd z.1 (by decide)
              · exact absurd z.1 (by decide)
              · exact absurd z.1 (by decide)
            have h3 : i < f 3 := hi
            have := (hold.1 hr0).2; omega)
          show some (Sum.inr (3, [Value.int (nI i), .ref (ad 0 (i / 3))])) = some (Sum.inr (3, [Value.int (nI i), .ref (ad' 0 (i / 3))]))
          rw [e]
        | 3 => exact absurd hi id
        | 4 => rfl
        | 5 => exact absurd hi id
        | 6 =>
          have h2 : i < f 2 := hi
          have hr01 : r ≠ 0 ∧ r ≠ 1 := ⟨fun z => by have := (hold.1 z).1; omega, fun z => by have := hold.2 z; omega⟩
          have e : ∀ u v, u = 0 ∨ u = 4 → ad' u v = ad u v := fun u v hu => aO _ _ (fun z => by
            rcases (show r = 2 ∨ r = 3 by omega) with rfl | rfl
            · have : u = 6 := z.1; omega
            · have : u = 2 := z.1; omega)
          show some (Sum.inr (7, [Value.int (nI i), .ref (ad 0 (i % 4)), .ref (ad 4 0)])) = some (Sum.inr (7, [Value.int (nI i), .ref (ad' 0 (i % 4)), .ref (ad' 4 0)]))
          rw [e 0 _ (Or.inl rfl), e 4 _ (Or.inr rfl)]
        | 7 =>
          simp only [icell, z0 8 _ (by decide) (by decide) (by decide) (by decide), z0 9 _ (by decide) (by decide) (by decide) (by decide)]
        | 8 =>
          have hi4 : i < 4 := hi
          have hir : i ≠ r := fun z => e8 ⟨rfl, z⟩
          have ef : fU f r i = f i := by simp [fU, hir]
          have et : rtag i ≠ rtag r := by
            rcases (show r = 0 ∨ r = 1 ∨ r = 2 ∨ r = 3 by omega) with rfl | rfl | rfl | rfl <;> rcases (show i = 0 ∨ i = 1 ∨ i = 2 ∨ i = 3 by omega) with rfl | rfl | rfl | rfl <;> simp [rtag] at hir ⊢
          have ea : ∀ j, ad' (rtag i) j = ad (rtag i) j := fun j => aO _ _ (fun z => et z.1)
          simp only [icell, ef, ea]
        | 9 => rfl
        | t + 10 => exact absurd hi id
  · by_cases n1 : t = rtag r ∧ i = f r
    · by_cases n2 : t' = rtag r ∧ i' = f r
      · exact ⟨by rw [n1.1, n2.1], by rw [n1.2, n2.2]⟩
      · exfalso
        rw [n1.1, n1.2, aN, aO _ _ n2] at he
        exact ne_fresh (h.1 _ _ (hin _ _ ht' n2)) hq he.symm
    · by_cases n2 : t' = rtag r ∧ i' = f r
      · exfalso
        rw [n2.1, n2.2, aN, aO _ _ n1] at he
        exact ne_fresh (h.1 _ _ (hin _ _ ht n1)) hq he
      · rw [aO _ _ n1, aO _ _ n2] at he
        exact h.2 _ _ _ _ (hin _ _ ht n1) (hin _ _ ht' n2) he
theorem PI.G {kc : Nat → ClassId} {e0 : Nat × Nat} {f : Nat → Nat} {ad : Nat → Nat → Nat} {M : Mp} (h : PI kc e0 f ad M) (h0 : f 0 = 4) (h1 : f 1 = 3) (h2 : f 2 = 8) (h3 : f 3 = 12) (τ : Sg) (th : Int32) (o : Int64) : G (fun t => t ≤ 10) kc e0 sg0 τ th o (ad, fun _ => 0, fun _ _ => none, fun _ => nI 0) M := by
  have hin : ∀ t i, inR (fun t => t ≤ 10) sg0 t i → inI f t i := by
    intro t i hr
    obtain ⟨hr1, hr2⟩ := hr
    match t with
    | 0 => show i < f 0; rw [h0]; exact hr2
    | 1 => exact absurd hr2 (Nat.not_lt_zero _)
    | 2 => show i < f 3; rw [h3]; exact hr2
    | 3 => exact absurd hr2 (Nat.not_lt_zero _)
    | 4 => show i < f 1; rw [h1]; exact hr2
    | 5 => exact absurd hr2 (Nat.not_lt_zero _)
    | 6 => show i < f 2; rw [h2]; exact hr2
    | 7 => exact hr2
    | 8 => exact hr2
    | 9 => exact hr2
    | 10 => have := hr2.2; simp [cnt, sg0] at this
    | t + 11 => exact absurd hr1 (by omega)
  refine ⟨fun t i hr => ?_, fun t i t' i' hr hr' he => h.2 t i t' i' (hin t i hr) (hin t' i' hr') he, fun i hi => ⟨by simp [cnt, sg0], fun hz => by simp [cnt, sg0] at hz⟩⟩
  show M (ad t i) = _
  rw [h.1 t i (hin t i hr)]
  have hr2 := hr.2
  match t with
  | 0 => rfl
  | 1 => exact absurd hr2 (Nat.not_lt_zero _)
  | 2 => rfl
  | 3 => exact absurd hr2 (Nat.not_lt_zero _)
  | 4 =>
    have h3 : i < 3 := hr2
    show some (Sum.inr (5, [Value.int (nI i), .int (nI 10), .int (nI 500)])) = some (Sum.inr (5, [Value.int (nI i), .int (nI (if i < 3 then 10 else 0)), .int (nI (if i < 3 then 500 else 0))]))
    rw [if_pos h3, if_pos h3]
  | 5 => exact absurd hr2 (Nat.not_lt_zero _)
  | 6 => rfl
  | 7 => rfl
  | 8 =>
    have e : f i = rlen i := by
      rcases (show i = 0 ∨ i = 1 ∨ i = 2 ∨ i = 3 by have : i < 4 := hr2; omega) with rfl | rfl | rfl | rfl
      · exact h0
      · exact h1
      · exact h2
      · exact h3
    show some (qrow (kc (3 + i)) (rlen i) (fun j => if j < f i then some (ad (rtag i) j) else none)) = _
    rw [e]; rfl
  | 9 =>
    have e : cnt sg0 i = 0 := by simp [cnt, sg0]
    show some (Sum.inr (0, [Value.int (nI 0), .ref e0.1, .int (nI 0)])) = some (Sum.inr (0, [Value.int (nI 0), .ref (lar e0 sg0 (ad, fun _ => 0, fun _ _ => none, fun _ => nI 0) i), .int (nI (cnt sg0 i))]))
    unfold lar
    rw [e, if_pos rfl]
  | 10 => have := hr2.2; simp [cnt, sg0] at this
  | t + 11 => exact absurd hr.1 (by show ¬ (t + 11 ≤ 10); omega)
