/-! which chargeback is the next due, and which has a rank -/
theorem bef_ahd {nn : Nat} {σ : Sg} (hwf : WS nn σ) {a b : Nat} (ha : a < nB σ) (hb : b < nB σ) (h1 : isDu σ a) (h2 : isDu σ b) : bef σ a b ↔ ahd σ a b := by
  have k1 := hwf.2.2.2.2.2.2.2.2 a ha
  have k2 := hwf.2.2.2.2.2.2.2.2 b hb
  have k3 := hwf.1
  unfold bef dueB ahd
  rw [cbl_t h1, cbl_t h2, Int32.lt_iff_toInt_lt, ← Int32.toInt_inj, nI_tI (by omega), nI_tI (by omega)]
  omega
theorem ahd_irr {σ : Sg} (a : Nat) : ¬ ahd σ a a := by unfold ahd; omega
theorem ahd_tr {σ : Sg} {a b c : Nat} (h1 : ahd σ a b) (h2 : ahd σ b c) : ahd σ a c := by unfold ahd at *; omega
theorem ahd_tri {σ : Sg} (a b : Nat) : a = b ∨ ahd σ a b ∨ ahd σ b a := by unfold ahd; omega
def tr (σ : Sg) (b j : Nat) : Nat := if j ≠ b ∧ isDu σ j ∧ ahd σ j b then 1 else 0
theorem raS_s (σ : Sg) (b j : Nat) : raS σ b (j + 1) = raS σ b j + tr σ b j := rfl
theorem tr_1 {σ : Sg} {b j : Nat} (h1 : isDu σ j) (h2 : ahd σ j b) : tr σ b j = 1 := if_pos ⟨fun z => ahd_irr b (z ▸ h2), h1, h2⟩
theorem tr_0 {σ : Sg} {b j : Nat} (h : ¬ (isDu σ j ∧ ahd σ j b)) : tr σ b j = 0 := if_neg (fun z => h z.2)
theorem ra_lt {σ : Sg} {a b : Nat} (hd : isDu σ a) (h : ahd σ a b) : ∀ n, raS σ a n + (if a < n then 1 else 0) ≤ raS σ b n
  | 0 => by simp [raS]
  | n + 1 => by
    rw [raS_s, raS_s]
    have ih := ra_lt hd h n
    by_cases e : a = n
    · subst e
      rw [tr_0 (b := a) (j := a) (fun z => ahd_irr a z.2), tr_1 hd h, if_pos (by omega)]
      rw [if_neg (by omega)] at ih
      omega
    · have e2 : (if a < n + 1 then 1 else 0 : Nat) = if a < n then 1 else 0 := by
        by_cases z : a < n
        · rw [if_pos z, if_pos (by omega)]
        · rw [if_neg z, if_neg (by omega)]
      rw [e2]
      have e3 : tr σ a n ≤ tr σ b n := by
        by_cases z : isDu σ n ∧ ahd σ n a
        · rw [tr_1 z.1 z.2, tr_1 z.1 (ahd_tr z.2 h)]; exact Nat.le_refl _
        · rw [tr_0 z]; exact Nat.zero_le _
      omega
theorem ra_step {σ : Sg} {x m : Nat} (hx : isDu σ x) (hxm : ahd σ x m) {N : Nat} (hmin : ∀ j, j < N → isDu σ j → ahd σ x j → j = m ∨ ahd σ m j) : ∀ n, n ≤ N → raS σ m n = raS σ x n + (if x < n then 1 else 0)
  | 0, _ => by simp [raS]
  | n + 1, hn => by
    rw [raS_s, raS_s, ra_step hx hxm hmin n (by omega)]
    by_cases e : x = n
    · subst e
      rw [tr_0 (b := x) (j := x) (fun z => ahd_irr x z.2), tr_1 hx hxm, if_neg (show ¬ x < x by omega), if_pos (show x < x + 1 by omega)]
    · have e2 : (if x < n + 1 then 1 else 0 : Nat) = if x < n then 1 else 0 := by
        by_cases z : x < n
        · rw [if_pos z, if_pos (by omega)]
        · rw [if_neg z, if_neg (by omega)]
      rw [e2]
      have e3 : tr σ m n = tr σ x n := by
        by_cases z : isDu σ n ∧ ahd σ n x
        · rw [tr_1 z.1 z.2, tr_1 z.1 (ahd_tr z.2 hxm)]
        · rw [tr_0 z]
          refine tr_0 (fun z2 => ?_)
          rcases ahd_tri (σ := σ) n x with z3 | z3 | z3
          · exact e z3.symm
          · exact z ⟨z2.1, z3⟩
          · rcases hmin n (by omega) z2.1 z3 with z4 | z4
            · exact ahd_irr m (z4 ▸ z2.2)
            · exact ahd_irr m (ahd_tr z4 z2.2)
      omega
theorem ra_zero {σ : Sg} {m N : Nat} (hmin : ∀ j, j < N → isDu σ j → j = m ∨ ahd σ m j) : ∀ n, n ≤ N → raS σ m n = 0
  | 0, _ => rfl
  | n + 1, hn => by
    rw [raS_s, ra_zero hmin n (by omega)]
    rw [tr_0 (fun z => ?_)]
    rcases hmin n (by omega) z.1 with h | h
    · exact ahd_irr m (h ▸ z.2)
    · exact ahd_irr m (ahd_tr h z.2)
theorem ra_b {σ : Sg} (j : Nat) : ∀ n, raS σ j n + (if j < n then 1 else 0) ≤ n
  | 0 => by simp [raS]
  | n + 1 => by
    rw [raS_s]
    have ih := ra_b (σ := σ) j n
    by_cases e : j = n
    · subst e
      rw [tr_0 (b := j) (j := j) (fun z => ahd_irr j z.2), if_pos (by omega)]
      rw [if_neg (by omega)] at ih
      omega
    · have e3 : tr σ j n ≤ 1 := by unfold tr; split <;> omega
      have e2 : (if j < n + 1 then 1 else 0 : Nat) = if j < n then 1 else 0 := by
        by_cases z : j < n
        · rw [if_pos z, if_pos (by omega)]
        · rw [if_neg z, if_neg (by omega)]
      omega
theorem ra_uniq {σ : Sg} {a b : Nat} (ha : a < nB σ) (hb : b < nB σ) (h1 : isDu σ a) (h2 : isDu σ b) (h : raS σ a (nB σ) = raS σ b (nB σ)) : a = b := by
  rcases ahd_tri (σ := σ) a b with z | z | z
  · exact z
  · have := ra_lt h1 z (nB σ); rw [if_pos ha] at this; omega
  · have := ra_lt h2 z (nB σ); rw [if_pos hb] at this; omega
theorem duS_none {σ : Sg} {r : Nat} : ∀ n, (∀ j, j < n → isDu σ j → raS σ j (nB σ) ≠ r) → duS σ r n = -1
  | 0, _ => rfl
  | n + 1, h => by
    rw [duS, if_neg (fun z => h n (by omega) z.1 z.2), duS_none n (fun j hj => h j (by omega))]
theorem duS_some {σ : Sg} {r m : Nat} (hm : isDu σ m) (hr : raS σ m (nB σ) = r) (hmB : m < nB σ) : ∀ n, n ≤ nB σ → m < n → duS σ r n = nI m
  | 0, _, h => absurd h (Nat.not_lt_zero _)
  | n + 1, hn, h => by
    rw [duS]
    by_cases e : isDu σ n ∧ raS σ n (nB σ) = r
    · rw [if_pos e, ra_uniq (a := n) (b := m) (by omega) hmB e.1 hm (by rw [e.2, hr])]
    · rw [if_neg e]
      refine duS_some hm hr hmB n (by omega) ?_
      rcases Nat.lt_succ_iff_lt_or_eq.mp h with z | z
      · exact z
      · subst z; exact absurd ⟨hm, hr⟩ e
/-- the least of those behind la -/
theorem nx_min {nn : Nat} {σ : Sg} (hwf : WS nn σ) {la : Option Nat} : ∀ n r, n ≤ nB σ → nxR σ la n r → (r = none → ∀ j, j < n → isDu σ j → ¬ beh σ la j) ∧ (∀ m, r = some m → m < n ∧ isDu σ m ∧ beh σ la m ∧ ∀ j, j < n → isDu σ j → beh σ la j → j = m ∨ ahd σ m j)
  | 0, r, _, h => ⟨fun _ j hj => absurd hj (Nat.not_lt_zero _), fun m hm => by rw [show r = none from h] at hm; cases hm⟩
  | n + 1, r, hn, ⟨nx, h1, h2, h3⟩ => by
    obtain ⟨i1, i2⟩ := nx_min hwf n nx (by omega) h1
    by_cases c : isDu σ n ∧ beh σ la n ∧ (nx = none ∨ ∃ m, nx = some m ∧ bef σ n m)
    · have hr := h2 c
      refine ⟨fun z => (by rw [hr] at z; cases z), fun m hm => ?_⟩
      rw [hr] at hm
      cases hm
      refine ⟨by omega, c.1, c.2.1, fun j hj hd hbj => ?_⟩
      by_cases e : j = n
      · exact Or.inl e
      · right
        rcases c.2.2 with z | ⟨m, z1, z2⟩
        · exact absurd hbj (i1 z j (by omega) hd)
        · obtain ⟨k1, k2, k3, k4⟩ := i2 m z1
          have z3 := (bef_ahd hwf (show n < nB σ by omega) (show m < nB σ by omega) c.1 k2).mp z2
          rcases k4 j (by omega) hd hbj with z4 | z4
          · rw [z4]; exact z3
          · exact ahd_tr z3 z4
    · have hr := h3 c
      subst hr
      refine ⟨fun z j hj hd hbj => ?_, fun m hm => ?_⟩
      · by_cases e : j = n
        · subst e; exact c ⟨hd, hbj, Or.inl z⟩
        · exact i1 z j (by omega) hd hbj
      · obtain ⟨k1, k2, k3, k4⟩ := i2 m hm
        refine ⟨by omega, k2, k3, fun j hj hd hbj => ?_⟩
        by_cases e : j = n
        · subst e
          rcases ahd_tri (σ := σ) j m with z | z | z
          · exact Or.inl z
          · exact absurd ⟨hd, hbj, Or.inr ⟨m, hm, (bef_ahd hwf (show j < nB σ by omega) (show m < nB σ by omega) hd k2).mpr z⟩⟩ c
          · exact Or.inr z
        · exact k4 j (by omega) hd hbj
/-- la is the one before the place i -/
def laO (σ : Sg) (i : Nat) : Option Nat → Prop
  | none => i = 0
  | some x => x < nB σ ∧ isDu σ x ∧ raS σ x (nB σ) + 1 = i
theorem la_next {nn : Nat} {σ : Sg} (hwf : WS nn σ) {i : Nat} {la r : Option Nat} (hl : laO σ i la) (h : nxR σ la (nB σ) r) : (∀ m, r = some m → laO σ (i + 1) (some m) ∧ raS σ m (nB σ) = i) ∧ (r = none → ∀ j, j < nB σ → isDu σ j → raS σ j (nB σ) < i) := by
  obtain ⟨h1, h2⟩ := nx_min hwf (nB σ) r (Nat.le_refl _) h
  cases la with
  | none =>
    have hi : i = 0 := hl
    subst hi
    refine ⟨fun m hm => ?_, fun z j hj hd => absurd trivial (h1 z j hj hd)⟩
    obtain ⟨k1, k2, k3, k4⟩ := h2 m hm
    have e := ra_zero (σ := σ) (m := m) (N := nB σ) (fun j hj hd => k4 j hj hd trivial) (nB σ) (Nat.le_refl _)
    exact ⟨⟨k1, k2, by omega⟩, e⟩
  | some x =>
    obtain ⟨x1, x2, x3⟩ := hl
    refine ⟨fun m hm => ?_, fun z j hj hd => ?_⟩
    · obtain ⟨k1, k2, k3, k4⟩ := h2 m hm
      have e := ra_step (σ := σ) (x := x) (m := m) x2 ((bef_ahd hwf x1 k1 x2 k2).mp k3) (N := nB σ) (fun j hj hd hxj => k4 j hj hd ((bef_ahd hwf x1 hj x2 hd).mpr hxj)) (nB σ) (Nat.le_refl _)
      rw [if_pos x1] at e
      exact ⟨⟨k1, k2, by omega⟩, by omega⟩
    · have e : ¬ ahd σ x j := fun z2 => h1 z j hj hd ((bef_ahd hwf x1 hj x2 hd).mpr z2)
      rcases ahd_tri (σ := σ) j x with z3 | z3 | z3
      · rw [z3]; omega
      · have := ra_lt hd z3 (nB σ); rw [if_pos hj] at this; omega
      · exact absurd z3 e
/-! shares -/
theorem lI_of {c : Int32} {v : Int} (h : c.toInt = v) (h1 : -2147483648 ≤ v) (h2 : v < 2147483648) : c.toInt64 = lI v := by
  rw [← Int64.toInt_inj, Int32.toInt_toInt64, h]
  unfold lI
  rw [Int64.toInt_ofInt_of_le (by omega) (by omega)]
theorem subT {x y : Nat} (hx : x < 2147483648) (hy : y < 2147483648) : (nI x - nI y).toInt = (x : Int) - y := by
  rw [Int32.toInt_sub, nI_tI hx, nI_tI hy]
  exact Int.bmod_eq_of_le (by omega) (by omega)
theorem negT {c : Int32} {v : Int} (h : c.toInt = v) (h1 : -2147483647 ≤ v) (h2 : v < 2147483648) : (nI 0 - c).toInt = -v := by
  rw [Int32.toInt_sub, h, nI_tI (by decide)]
  rw [Int.bmod_eq_of_le (by omega) (by omega)]
  omega
theorem sh_lI {pr : Nat → Prop} {kc : Nat → ClassId} {e0 : Nat × Nat} {σ τ : Sg} {th : Int32} {o : Int64} {g : Gh} {M : Mp} (hG : G pr kc e0 σ τ th o g M) (h0 : pr 0) {a b d : Nat} (ha : a < 4) (hb : b < 4) (hd : d < 4) {c : Int32} {v : Int} (h : c.toInt = v) (h1 : -2147483647 ≤ v) (h2 : v < 2147483648) : (shN (g.1 0 a) (g.1 0 b) (g.1 0 d) c).toInt64 = lI ((if a = d then v else 0) - (if b = d then v else 0)) := by
  have ea : ∀ x, x < 4 → (g.1 0 x = g.1 0 d ↔ x = d) := fun x hx => ⟨fun z => (hG.2.1 0 x 0 d ⟨h0, hx⟩ ⟨h0, hd⟩ z).2, fun z => by rw [z]⟩
  have hz : (nI 0).toInt64 = lI 0 := lI_of (nI_tI (by decide)) (by decide) (by decide)
  have hc : nI 0 + c = c := Int32.zero_add c
  unfold shN
  by_cases e1 : a = d <;> by_cases e2 : b = d
  · rw [if_pos ((ea a ha).mpr e1), if_pos ((ea b hb).mpr e2), if_pos e1, if_pos e2, hc, Int32.sub_self, Int.sub_self]
    exact hz
  · rw [if_pos ((ea a ha).mpr e1), if_neg (fun z => e2 ((ea b hb).mp z)), if_pos e1, if_neg e2, hc, Int32.sub_zero, Int.sub_zero]
    exact lI_of h (by omega) h2
  · rw [if_neg (fun z => e1 ((ea a ha).mp z)), if_pos ((ea b hb).mpr e2), if_neg e1, if_pos e2, Int.zero_sub]
    exact lI_of (negT h h1 h2) (by omega) (by omega)
  · rw [if_neg (fun z => e1 ((ea a ha).mp z)), if_neg (fun z => e2 ((ea b hb).mp z)), if_neg e1, if_neg e2, Int32.sub_zero, Int.sub_zero]
    exact hz
theorem lI_sub (x y : Int) : lI x - lI y = lI (x - y) := (Int64.ofInt_sub x y).symm
