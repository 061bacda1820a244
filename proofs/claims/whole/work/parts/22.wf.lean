/-! what is always so, stays so -/
def Sm (f : Nat → Int) : Nat → Int
  | 0 => 0
  | k + 1 => Sm f k + f k
theorem Sm_congr {f g : Nat → Int} : ∀ n, (∀ k, k < n → f k = g k) → Sm f n = Sm g n
  | 0, _ => rfl
  | n + 1, h => by rw [Sm, Sm, Sm_congr n (fun k hk => h k (by omega)), h n (by omega)]
theorem Sm_upd {f g : Nat → Int} {k0 : Nat} {d : Int} : ∀ n, k0 < n → (∀ k, k < n → k ≠ k0 → f k = g k) → f k0 = g k0 + d → Sm f n = Sm g n + d
  | 0, h, _, _ => absurd h (Nat.not_lt_zero _)
  | n + 1, h, h1, h2 => by
    rw [Sm, Sm]
    by_cases e : k0 = n
    · subst e
      rw [Sm_congr k0 (fun k hk => h1 k (by omega) (by omega)), h2]; omega
    · rw [Sm_upd n (by omega) (fun k hk hn => h1 k (by omega) hn) h2, h1 n (by omega) (by omega)]; omega
def t1 (σ : Sg) (b k : Nat) : Int := shz σ k b ((σ.1 13 k : Int) - σ.1 14 k - σ.1 15 k)
def t2 (σ : Sg) (b j : Nat) : Int := if σ.1 17 j = 0 ∨ σ.1 17 j = 2 ∨ σ.1 17 j = 3 then shz σ (σ.1 18 j) b (σ.1 19 j) else 0
theorem n1_Sm (σ : Sg) (b : Nat) : ∀ n, n1S σ b n = Sm (t1 σ b) n
  | 0 => rfl
  | n + 1 => by rw [n1S, Sm, n1_Sm σ b n]; rfl
theorem n2_Sm (σ : Sg) (b : Nat) : ∀ n, n2S σ b n = Sm (t2 σ b) n
  | 0 => rfl
  | n + 1 => by rw [n2S, Sm, n2_Sm σ b n]; rfl
theorem feS_congr {σ σ' : Sg} : ∀ n, (∀ k, k < n → σ'.1 14 k = σ.1 14 k) → feS σ' n = feS σ n
  | 0, _ => rfl
  | n + 1, h => by rw [feS, feS, feS_congr n (fun k hk => h k (by omega)), h n (by omega)]
def tg (σ : Sg) (k j : Nat) : Nat := if σ.1 18 j = k ∧ σ.1 17 j ≠ 4 then σ.1 19 j else 0
theorem gbS_s (σ : Sg) (k j : Nat) : gbS σ k (j + 1) = gbS σ k j + tg σ k j := rfl
theorem gbS_le {σ σ' : Sg} {k d : Nat} (h0 : σ'.1 15 k ≤ σ.1 15 k + d) : ∀ n, (∀ j, j < n → tg σ' k j ≤ tg σ k j) → gbS σ' k n ≤ gbS σ k n + d
  | 0, _ => h0
  | n + 1, h => by
    rw [gbS_s, gbS_s]
    have h1 := gbS_le h0 n (fun j hj => h j (by omega))
    have h2 := h n (by omega)
    omega
theorem gbS_zero {σ : Sg} {k : Nat} (h0 : σ.1 15 k = 0) : ∀ n, (∀ j, j < n → σ.1 18 j ≠ k) → gbS σ k n = 0
  | 0, _ => h0
  | n + 1, h => by
    rw [gbS_s, gbS_zero h0 n (fun j hj => h j (by omega)), tg, if_neg (fun z => h n (by omega) z.1)]
theorem gbS_eq {σ σ' : Sg} {k : Nat} (h0 : σ'.1 15 k = σ.1 15 k) : ∀ n, (∀ j, j < n → tg σ' k j = tg σ k j) → gbS σ' k n = gbS σ k n
  | 0, _ => h0
  | n + 1, h => by
    rw [gbS_s, gbS_s, gbS_eq h0 n (fun j hj => h j (by omega)), h n (by omega)]
theorem WS.mono {n m : Nat} {σ : Sg} (h : WS n σ) (h1 : n ≤ m) (h2 : m ≤ 600) : WS m σ := by
  obtain ⟨⟨a1, a2⟩, a3, a4, a5, a6, a7, a8, a9, a10⟩ := h
  exact ⟨⟨h2, by omega⟩, a3, a4, a5, fun j hj => by have := a6 j hj; omega, a7, a8, a9, fun j hj => by have := a10 j hj; omega⟩
theorem WF.mono {n m : Nat} {σ : Sg} (h : WF n σ) (h1 : n ≤ m) (h2 : m ≤ 600) : WF m σ := ⟨h.1.mono h1 h2, h.2⟩
/-- what the invariant of the nets and fees needs -/
theorem WF.of {n m : Nat} {σ σ' : Sg} (h : WF n σ) (h1 : WS m σ') (hf : σ'.1 21 0 - feS σ' (nC σ') = 0 ∧ feS σ' (nC σ') ≤ σ'.1 21 0) (hn : ∀ b, b < 4 → σ'.2 0 b = Sm (t1 σ' b) (nC σ') - Sm (t2 σ' b) (nB σ')) : WF m σ' :=
  ⟨h1, by omega, fun b hb => by rw [n1_Sm, n2_Sm]; exact hn b hb⟩
theorem WF.net {n : Nat} {σ : Sg} (h : WF n σ) {b : Nat} (hb : b < 4) : σ.2 0 b = Sm (t1 σ b) (nC σ) - Sm (t2 σ b) (nB σ) := by
  rw [h.2.2 b hb, n1_Sm, n2_Sm]
section WSP
variable {n : Nat} {σ : Sg}
theorem WS_kd (h : WS n σ) (i : Nat) {v : Nat} (hv : v < 3) : WS n (up2 σ.1 1 i v, σ.2) := by
  obtain ⟨⟨a1, a2⟩, a3, a4, a5, a6, a7, a8, a9, a10⟩ := h
  refine ⟨⟨a1, a2⟩, fun s => ?_, a4, a5, a6, a7, fun k hk => ?_, a9, a10⟩
  · have := a3 s; simp only [up2]; split <;> omega
  · have := a8 k hk
    have e : gb (up2 σ.1 1 i v, σ.2) k ≤ gb σ k + 0 := gbS_le (Nat.le_refl _) _ (fun j hj => Nat.le_refl _)
    exact ⟨this.1, this.2.1, this.2.2.1, this.2.2.2.1, by show gb (up2 σ.1 1 i v, σ.2) k ≤ σ.1 13 k; omega⟩
theorem WS_kn (h : WS n σ) (i : Nat) {v w : Nat} (hv : v ≤ 100) (hw : w ≤ 9999) : WS n (up2 (up2 σ.1 2 i v) 3 i w, σ.2) := by
  obtain ⟨⟨a1, a2⟩, a3, a4, a5, a6, a7, a8, a9, a10⟩ := h
  refine ⟨⟨a1, a2⟩, a3, fun k => ?_, a5, a6, a7, fun k hk => ?_, a9, a10⟩
  · have := a4 k
    simp only [up2]
    by_cases e : k = i <;> simp [e] <;> omega
  · have := a8 k hk
    have e : gb (up2 (up2 σ.1 2 i v) 3 i w, σ.2) k ≤ gb σ k + 0 := gbS_le (Nat.le_refl _) _ (fun j hj => Nat.le_refl _)
    exact ⟨this.1, this.2.1, this.2.2.1, this.2.2.2.1, by show gb (up2 (up2 σ.1 2 i v) 3 i w, σ.2) k ≤ σ.1 13 k; omega⟩
theorem WS_pay (h : WS n σ) {cd sh v : Nat} (h1 : cd < 12) (h2 : sh < 8) (h3 : 1 ≤ v) (h4 : v ≤ 100000) (h5 : nP σ < 60) : WS n (addPay σ cd sh v) := by
  obtain ⟨⟨a1, a2⟩, a3, a4, a5, a6, a7, a8, a9, a10⟩ := h
  refine ⟨⟨a1, a2⟩, a3, a4, ⟨?_, a5.2⟩, fun j hj => ?_, fun j hj => ?_, fun k hk => ?_, a9, a10⟩
  · show nP σ + 1 ≤ 60; omega
  · have hj2 : j < nP σ + 1 := hj
    have h7 := a7 j
    by_cases e : j = nP σ
    · have h7 := h7 (by omega)
      subst e
      (simp only [nP, nC, nB, tD] at *); simp [nP, nC, nB, tD, addPay, up2]; omega
    · have h6 := a6 j (by omega)
      (simp only [nP, nC, nB, tD] at *); simp [nP, nC, nB, tD, addPay, up2, e]; omega
  · have hj2 : nP σ + 1 ≤ j := hj
    have h7 := a7 j (by omega)
    (simp only [nP, nC, nB, tD] at *); simp [nP, nC, nB, tD, addPay, up2]; omega
  · have := a8 k hk
    have e : gb (addPay σ cd sh v) k ≤ gb σ k + 0 := gbS_le (Nat.le_refl _) _ (fun j hj => Nat.le_refl _)
    exact ⟨by show σ.1 12 k < nP σ + 1; omega, this.2.1, this.2.2.1, this.2.2.2.1, by show gb (addPay σ cd sh v) k ≤ σ.1 13 k; omega⟩
theorem feeN_le (cp rt v : Nat) (h : rt ≤ 100) : feeN cp rt v ≤ v := by
  have h1 : v * rt ≤ v * 100 := Nat.mul_le_mul_left _ h
  unfold feeN
  split
  · omega
  · omega
theorem WS_cap (h : WS n σ) {j v : Nat} (h1 : j < nP σ) (h2 : 1 ≤ v) (h3 : σ.1 8 j + v ≤ σ.1 7 j) (h4 : nC σ < 100) : WS n (addCap σ j v) := by
  obtain ⟨⟨a1, a2⟩, a3, a4, a5, a6, a7, a8, a9, a10⟩ := h
  have hj := a6 j h1
  refine ⟨⟨a1, a2⟩, a3, a4, ⟨a5.1, ?_, a5.2.2⟩, fun i hi => ?_, fun i hi => ?_, fun k hk => ?_, fun k hk => ?_, fun i hi => ?_⟩
  · show nC σ + 1 ≤ 100; omega
  · have h6 := a6 i hi
    by_cases e : i = j
    · subst e
      (simp only [nP, nC, nB, tD] at *); simp [nP, nC, nB, tD, addCap, up2]; omega
    · (simp only [nP, nC, nB, tD] at *); simp [nP, nC, nB, tD, addCap, up2, e]; omega
  · have hi2 : nP σ ≤ i := hi
    have h7 := a7 i hi
    have e : i ≠ j := by omega
    (simp only [nP, nC, nB, tD] at *); simp [nP, nC, nB, tD, addCap, up2, e]; omega
  · have hk2 : k < nC σ + 1 := hk
    have e : gb (addCap σ j v) k ≤ gb σ k + 0 := gbS_le (Nat.le_refl _) _ (fun i hi => Nat.le_refl _)
    by_cases ek : k = nC σ
    · have z : gb σ k = 0 := gbS_zero (a9 k (by omega)) _ (fun i hi => by have := a10 i hi; omega)
      have hf : cfeN σ j v ≤ v := feeN_le _ _ _ (a4 _).1
      have e2 : gb (addCap σ j v) k ≤ 0 := by omega
      refine ⟨?_, ?_, ?_, ?_, Nat.le_trans e2 (Nat.zero_le _)⟩ <;> (simp only [nP, nC, nB, tD] at *) <;> simp [nP, nC, nB, tD, addCap, up2, ek] <;> omega
    · have h8 := a8 k (by omega)
      have e3 : (addCap σ j v).1 13 k = σ.1 13 k := by simp [nP, nC, nB, tD, addCap, up2, ek]
      refine ⟨?_, ?_, ?_, ?_, ?_⟩
      · (simp only [nP, nC, nB, tD] at *); simp [nP, nC, nB, tD, addCap, up2, ek]; omega
      · rw [e3]; omega
      · rw [e3]; omega
      · (simp only [nP, nC, nB, tD] at *); simp [nP, nC, nB, tD, addCap, up2, ek]; omega
      · rw [e3]; omega
  · have hk2 : nC σ + 1 ≤ k := hk
    exact a9 k (by omega)
  · have h10 := a10 i hi
    exact ⟨h10.1, by show σ.1 18 i < nC σ + 1; omega, h10.2.2⟩
theorem WS_void (h : WS n σ) {j : Nat} (h1 : j < nP σ) : WS n (up2 σ.1 10 j 1, σ.2) := by
  obtain ⟨⟨a1, a2⟩, a3, a4, a5, a6, a7, a8, a9, a10⟩ := h
  refine ⟨⟨a1, a2⟩, a3, a4, a5, fun i hi => ?_, fun i hi => ?_, fun k hk => ?_, a9, a10⟩
  · have h6 := a6 i hi
    by_cases e : i = j <;> simp [up2, e] <;> first | omega | (subst e; omega)
  · have hi2 : nP σ ≤ i := hi
    have h7 := a7 i hi
    have e : i ≠ j := by omega
    simp [up2, e]; omega
  · have := a8 k hk
    have e : gb (up2 σ.1 10 j 1, σ.2) k ≤ gb σ k + 0 := gbS_le (Nat.le_refl _) _ (fun j hj => Nat.le_refl _)
    exact ⟨this.1, this.2.1, this.2.2.1, this.2.2.2.1, by show gb (up2 σ.1 10 j 1, σ.2) k ≤ σ.1 13 k; omega⟩
theorem WS_ref (h : WS n σ) {k v : Nat} (h1 : k < nC σ) (h2 : v + gb σ k ≤ σ.1 13 k) : WS n (addRef σ k v) := by
  obtain ⟨⟨a1, a2⟩, a3, a4, a5, a6, a7, a8, a9, a10⟩ := h
  refine ⟨⟨a1, a2⟩, a3, a4, a5, a6, a7, fun i hi => ?_, fun i hi => ?_, a10⟩
  · have h8 := a8 i hi
    refine ⟨h8.1, h8.2.1, h8.2.2.1, h8.2.2.2.1, ?_⟩
    show gb (addRef σ k v) i ≤ σ.1 13 i
    by_cases e : i = k
    · subst e
      have e1 : gb (addRef σ i v) i ≤ gb σ i + v := gbS_le (by simp [addRef, up2]) _ (fun j hj => Nat.le_refl _)
      omega
    · have e1 : gb (addRef σ k v) i ≤ gb σ i + 0 := gbS_le (by simp [addRef, up2, e]) _ (fun j hj => Nat.le_refl _)
      omega
  · have hi2 : nC σ ≤ i := hi
    have e : i ≠ k := by omega
    have := a9 i hi
    simp [addRef, up2, e]; omega
theorem WS_cb (h : WS n σ) {k v : Nat} (h1 : k < nC σ) (h2 : v + gb σ k ≤ σ.1 13 k) (h3 : 1 ≤ v) (h4 : nB σ < 60) : WS n (addCb σ k v) := by
  obtain ⟨⟨a1, a2⟩, a3, a4, a5, a6, a7, a8, a9, a10⟩ := h
  have hk := a8 k h1
  refine ⟨⟨a1, a2⟩, a3, a4, ⟨a5.1, a5.2.1, ?_⟩, a6, a7, fun i hi => ?_, a9, fun i hi => ?_⟩
  · show nB σ + 1 ≤ 60; omega
  · have h8 := a8 i hi
    refine ⟨h8.1, h8.2.1, h8.2.2.1, h8.2.2.2.1, ?_⟩
    show gbS (addCb σ k v) i (nB σ + 1) ≤ σ.1 13 i
    have e1 : gbS (addCb σ k v) i (nB σ) = gbS σ i (nB σ) := gbS_eq (σ := σ) (σ' := addCb σ k v) (k := i) rfl _ (fun j (hj : j < nB σ) => by
      have e : j ≠ σ.1 16 0 := by have e9 : j < σ.1 16 0 := hj; omega
      simp [tg, addCb, up2, e])
    rw [gbS_s, e1]
    have e2 : tg (addCb σ k v) i (nB σ) = if k = i then v else 0 := by simp [tg, addCb, up2]
    rw [e2]
    have h9 : gbS σ i (nB σ) ≤ σ.1 13 i := h8.2.2.2.2
    have h10 : v + gbS σ k (nB σ) ≤ σ.1 13 k := h2
    split
    · rename_i e; subst e; omega
    · omega
  · have hi2 : i < nB σ + 1 := hi
    by_cases e : i = nB σ
    · subst e
      have e2 : tD σ ≤ 100 * n := a2
      have e3 : v ≤ 100000 := by omega
      simp [nP, nC, nB, tD, addCb, up2]
      exact ⟨h1, h3, e3, e2⟩
    · have h10 := a10 i (by omega)
      simp [nP, nC, nB, tD, addCb, up2, e]; omega
/-- a chargeback's stage goes to st, its last day to u -/
theorem WS_st (h : WS n σ) {c st u : Nat} {ν : Nat → Nat → Int} (h1 : c < nB σ) (h2 : σ.1 17 c ≠ 4) (h3 : st ≤ 4) (h4 : u ≤ 100 * n + 10) : WS n (up2 (up2 σ.1 17 c st) 20 c u, ν) := by
  obtain ⟨⟨a1, a2⟩, a3, a4, a5, a6, a7, a8, a9, a10⟩ := h
  refine ⟨⟨a1, a2⟩, a3, a4, a5, a6, a7, fun i hi => ?_, a9, fun i hi => ?_⟩
  · have h8 := a8 i hi
    refine ⟨h8.1, h8.2.1, h8.2.2.1, h8.2.2.2.1, ?_⟩
    show gb (up2 (up2 σ.1 17 c st) 20 c u, ν) i ≤ σ.1 13 i
    have e1 : gb (up2 (up2 σ.1 17 c st) 20 c u, ν) i ≤ gb σ i + 0 := gbS_le (Nat.le_refl _) _ (fun j hj => by
      by_cases e : j = c
      · subst e
        simp only [tg, up2]
        simp
        split <;> split <;> simp_all
      · simp [tg, up2, e])
    omega
  · have h10 := a10 i hi
    by_cases e : i = c
    · subst e; refine ⟨?_, h10.2.1, h10.2.2.1, h10.2.2.2.1, ?_⟩ <;> simp [up2] <;> omega
    · refine ⟨?_, h10.2.1, h10.2.2.1, h10.2.2.2.1, ?_⟩ <;> simp [up2, e] <;> omega
theorem up2_same {α : Type} (f : Nat → Nat → α) (t i : Nat) : up2 f t i (f t i) = f := by
  funext a b
  by_cases h : a = t ∧ b = i
  · obtain ⟨h1, h2⟩ := h; subst h1; subst h2; simp [up2]
  · simp [up2, h]
theorem WS_st1 (h : WS n σ) {c st : Nat} {ν : Nat → Nat → Int} (h1 : c < nB σ) (h2 : σ.1 17 c ≠ 4) (h3 : st ≤ 4) : WS n (up2 σ.1 17 c st, ν) := by
  have h9 := (h.2.2.2.2.2.2.2.2 c h1).2.2.2.2
  have e := WS_st (ν := ν) h h1 h2 h3 h9
  have e2 : up2 (up2 σ.1 17 c st) 20 c (σ.1 20 c) = up2 σ.1 17 c st := by
    have : σ.1 20 c = up2 σ.1 17 c st 20 c := by simp [up2]
    rw [this, up2_same]
  rw [e2] at e
  exact e
theorem WS_pas (h : WS n σ) (hn : n + 1 ≤ 600) {d : Nat} (hd : d ≤ 100) : WS (n + 1) (pasS σ d) := by
  obtain ⟨⟨a1, a2⟩, a3, a4, a5, a6, a7, a8, a9, a10⟩ := h
  refine ⟨⟨hn, ?_⟩, a3, a4, a5, fun j hj => ?_, a7, fun i hi => ?_, a9, fun i hi => ?_⟩
  · show tD σ + d ≤ _; omega
  · have := a6 j hj
    exact ⟨this.1, this.2.1, this.2.2.1, this.2.2.2.1, this.2.2.2.2.1, Nat.le_trans this.2.2.2.2.2.1 (by omega), this.2.2.2.2.2.2⟩
  · have h8 := a8 i hi
    refine ⟨h8.1, h8.2.1, h8.2.2.1, h8.2.2.2.1, ?_⟩
    show gb (pasS σ d) i ≤ σ.1 13 i
    have e1 : gb (pasS σ d) i ≤ gb σ i + 0 := gbS_le (Nat.le_refl _) _ (fun j hj => by
      have hj2 : j < nB σ := hj
      simp only [tg, pasS]
      simp [hj2]
      unfold eil
      split <;> split <;> simp_all
      rw [if_neg (by omega)]; exact Nat.le_refl _)
    omega
  · have hi2 : i < nB σ := hi
    have h10 := a10 i hi
    refine ⟨?_, h10.2.1, h10.2.2.1, h10.2.2.2.1, Nat.le_trans h10.2.2.2.2 (by omega)⟩
    simp only [pasS]
    simp [hi2]
    unfold eil
    split <;> omega
end WSP
