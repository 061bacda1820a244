/-! the fees and the nets stay what the events say -/
section WFP
variable {n m : Nat} {σ : Sg}
theorem pay_cs (ν : Nat → Nat → Int) (σ : Sg) (k b : Nat) (v : Int) : payN ν (cBk σ k) (sBk σ k) v 0 b = ν 0 b + shz σ k b v := by
  unfold payN shz
  rw [if_pos (by decide)]
  by_cases h1 : b = cBk σ k <;> by_cases h2 : b = sBk σ k
  · rw [if_pos h1, if_pos h2, if_pos h2.symm, if_pos h1.symm]; omega
  · rw [if_pos h1, if_neg h2, if_neg (fun z => h2 z.symm), if_pos h1.symm]; omega
  · rw [if_neg h1, if_pos h2, if_pos h2.symm, if_neg (fun z => h1 z.symm)]; omega
  · rw [if_neg h1, if_neg h2, if_neg (fun z => h2 z.symm), if_neg (fun z => h1 z.symm)]; omega
theorem pay_sc (ν : Nat → Nat → Int) (σ : Sg) (k b : Nat) (v : Int) : payN ν (sBk σ k) (cBk σ k) v 0 b = ν 0 b - shz σ k b v := by
  unfold payN shz
  rw [if_pos (by decide)]
  by_cases h1 : b = cBk σ k <;> by_cases h2 : b = sBk σ k
  · rw [if_pos h2, if_pos h1, if_pos h2.symm, if_pos h1.symm]; omega
  · rw [if_neg h2, if_pos h1, if_neg (fun z => h2 z.symm), if_pos h1.symm]; omega
  · rw [if_pos h2, if_neg h1, if_pos h2.symm, if_neg (fun z => h1 z.symm)]; omega
  · rw [if_neg h2, if_neg h1, if_neg (fun z => h2 z.symm), if_neg (fun z => h1 z.symm)]; omega
theorem shz_neg (σ : Sg) (k b : Nat) (v w : Int) : shz σ k b (v - w) = shz σ k b v - shz σ k b w := by
  unfold shz; split <;> split <;> omega
theorem WF.mk' {σ' : Sg} (hs : WS m σ') (hf : σ'.1 21 0 = feS σ' (nC σ')) (hn : ∀ b, b < 4 → σ'.2 0 b = Sm (t1 σ' b) (nC σ') - Sm (t2 σ' b) (nB σ')) : WF m σ' :=
  ⟨hs, hf, fun b hb => by rw [n1_Sm, n2_Sm]; exact hn b hb⟩
theorem WF_kd (h : WF n σ) (i : Nat) {v : Nat} (hv : v < 3) : WF n (up2 σ.1 1 i v, σ.2) := by
  refine WF.mk' (WS_kd h.1 i hv) ?_ (fun b hb => ?_)
  · refine Eq.trans h.2.1 (Eq.symm (feS_congr _ ?_)); exact fun k _ => rfl
  · rw [Sm_congr (f := t1 (up2 σ.1 1 i v, σ.2) b) (g := t1 σ b) _ (fun k _ => rfl), Sm_congr (f := t2 (up2 σ.1 1 i v, σ.2) b) (g := t2 σ b) _ (fun k _ => rfl)]
    exact h.net hb
theorem WF_kn (h : WF n σ) (i : Nat) {v w : Nat} (hv : v ≤ 100) (hw : w ≤ 9999) : WF n (up2 (up2 σ.1 2 i v) 3 i w, σ.2) := by
  refine WF.mk' (WS_kn h.1 i hv hw) ?_ (fun b hb => ?_)
  · refine Eq.trans h.2.1 (Eq.symm (feS_congr _ ?_)); exact fun k _ => rfl
  · rw [Sm_congr (f := t1 (up2 (up2 σ.1 2 i v) 3 i w, σ.2) b) (g := t1 σ b) _ (fun k _ => rfl), Sm_congr (f := t2 (up2 (up2 σ.1 2 i v) 3 i w, σ.2) b) (g := t2 σ b) _ (fun k _ => rfl)]
    exact h.net hb
theorem WF_void (h : WF n σ) {j : Nat} (h1 : j < nP σ) : WF n (up2 σ.1 10 j 1, σ.2) := by
  refine WF.mk' (WS_void h.1 h1) ?_ (fun b hb => ?_)
  · refine Eq.trans h.2.1 (Eq.symm (feS_congr _ ?_)); exact fun k _ => rfl
  · rw [Sm_congr (f := t1 (up2 σ.1 10 j 1, σ.2) b) (g := t1 σ b) _ (fun k _ => rfl), Sm_congr (f := t2 (up2 σ.1 10 j 1, σ.2) b) (g := t2 σ b) _ (fun k _ => rfl)]
    exact h.net hb
theorem shz_congr {σ' : Sg} {k : Nat} (h5 : σ'.1 5 (σ'.1 12 k) = σ.1 5 (σ.1 12 k)) (h6 : σ'.1 6 (σ'.1 12 k) = σ.1 6 (σ.1 12 k)) (b : Nat) (v : Int) : shz σ' k b v = shz σ k b v := by
  unfold shz cBk sBk; rw [h5, h6]
theorem WF_pay (h : WF n σ) {cd sh v : Nat} (h1 : cd < 12) (h2 : sh < 8) (h3 : 1 ≤ v) (h4 : v ≤ 100000) (h5 : nP σ < 60) : WF n (addPay σ cd sh v) := by
  have hc : ∀ k, k < nC σ → ∀ b w, shz (addPay σ cd sh v) k b w = shz σ k b w := fun k hk b w => by
    have hk2 : σ.1 12 k ≠ σ.1 4 0 := by have e : σ.1 12 k < σ.1 4 0 := (h.1.2.2.2.2.2.2.1 k hk).1; omega
    refine shz_congr ?_ ?_ b w <;> simp [addPay, up2, hk2]
  refine WF.mk' (WS_pay h.1 h1 h2 h3 h4 h5) ?_ (fun b hb => ?_)
  · refine Eq.trans h.2.1 (Eq.symm (feS_congr _ ?_)); exact fun k _ => rfl
  · show σ.2 0 b = Sm (t1 (addPay σ cd sh v) b) (nC σ) - Sm (t2 (addPay σ cd sh v) b) (nB σ)
    rw [Sm_congr (f := t1 (addPay σ cd sh v) b) (g := t1 σ b) (nC σ) (fun k hk => ?_), Sm_congr (f := t2 (addPay σ cd sh v) b) (g := t2 σ b) (nB σ) (fun j hj => ?_)]
    · exact h.net hb
    · have := hc _ (h.1.2.2.2.2.2.2.2.2 j hj).2.1 b
      show (if _ then shz (addPay σ cd sh v) (σ.1 18 j) b (σ.1 19 j) else 0) = _
      rw [this]; rfl
    · exact hc k hk b _
theorem WF_ref (h : WF n σ) {k v : Nat} (h1 : k < nC σ) (h2 : v + gb σ k ≤ σ.1 13 k) : WF n (addRef σ k v) := by
  refine WF.mk' (WS_ref h.1 h1 h2) ?_ (fun b hb => ?_)
  · refine Eq.trans h.2.1 (Eq.symm (feS_congr _ ?_)); exact fun k _ => rfl
  · have e1 : Sm (t1 (addRef σ k v) b) (nC σ) = Sm (t1 σ b) (nC σ) + -(shz σ k b v) := by
      refine Sm_upd (k0 := k) _ h1 (fun i hi hn => ?_) ?_
      · show shz σ i b ((σ.1 13 i : Int) - σ.1 14 i - (up2 σ.1 15 k (σ.1 15 k + v) 15 i : Nat)) = _
        have e : up2 σ.1 15 k (σ.1 15 k + v) 15 i = σ.1 15 i := by simp [up2, hn]
        rw [e]; rfl
      · show shz σ k b ((σ.1 13 k : Int) - σ.1 14 k - (up2 σ.1 15 k (σ.1 15 k + v) 15 k : Nat)) = _
        have e : up2 σ.1 15 k (σ.1 15 k + v) 15 k = σ.1 15 k + v := by simp [up2]
        rw [e]
        have e2 : (σ.1 13 k : Int) - σ.1 14 k - ((σ.1 15 k + v : Nat) : Int) = ((σ.1 13 k : Int) - σ.1 14 k - σ.1 15 k) - (v : Int) := by omega
        rw [e2, shz_neg]; unfold t1; omega
    have e2 : Sm (t2 (addRef σ k v) b) (nB σ) = Sm (t2 σ b) (nB σ) := Sm_congr _ (fun j _ => rfl)
    show payN σ.2 (sBk σ k) (cBk σ k) v 0 b = Sm (t1 (addRef σ k v) b) (nC σ) - Sm (t2 (addRef σ k v) b) (nB σ)
    rw [pay_sc, e1, e2, h.net hb]; omega
theorem WF_cb (h : WF n σ) {k v : Nat} (h1 : k < nC σ) (h2 : v + gb σ k ≤ σ.1 13 k) (h3 : 1 ≤ v) (h4 : nB σ < 60) : WF n (addCb σ k v) := by
  refine WF.mk' (WS_cb h.1 h1 h2 h3 h4) ?_ (fun b hb => ?_)
  · refine Eq.trans h.2.1 (Eq.symm (feS_congr _ ?_)); exact fun k _ => rfl
  · have e1 : Sm (t1 (addCb σ k v) b) (nC σ) = Sm (t1 σ b) (nC σ) := Sm_congr _ (fun j _ => rfl)
    have e2 : Sm (t2 (addCb σ k v) b) (nB σ) = Sm (t2 σ b) (nB σ) := Sm_congr _ (fun j hj => by
      have hj2 : j ≠ σ.1 16 0 := by have e9 : j < σ.1 16 0 := hj; omega
      have a17 : (addCb σ k v).1 17 j = σ.1 17 j := by simp [addCb, up2, nB, hj2]
      have a18 : (addCb σ k v).1 18 j = σ.1 18 j := by simp [addCb, up2, nB, hj2]
      have a19 : (addCb σ k v).1 19 j = σ.1 19 j := by simp [addCb, up2, nB, hj2]
      unfold t2; rw [a17, a18, a19]; rfl)
    have e3 : t2 (addCb σ k v) b (nB σ) = shz σ k b v := by
      have a17 : (addCb σ k v).1 17 (nB σ) = 0 := by simp [addCb, up2]
      have a18 : (addCb σ k v).1 18 (nB σ) = k := by simp [addCb, up2]
      have a19 : (addCb σ k v).1 19 (nB σ) = v := by simp [addCb, up2]
      unfold t2; rw [a17, a18, a19]; rfl
    show payN σ.2 (sBk σ k) (cBk σ k) v 0 b = Sm (t1 (addCb σ k v) b) (nC σ) - Sm (t2 (addCb σ k v) b) (nB σ + 1)
    rw [Sm, pay_sc, e1, e2, e3, h.net hb]; omega
/-- a chargeback's stage goes from a to st -/
theorem t2_st {σ' : Sg} {c st : Nat} (h17 : ∀ j, σ'.1 17 j = if j = c then st else σ.1 17 j) (h18 : σ'.1 18 = σ.1 18) (h19 : σ'.1 19 = σ.1 19) (h12 : σ'.1 12 = σ.1 12) (h5 : σ'.1 5 = σ.1 5) (h6 : σ'.1 6 = σ.1 6) (b N : Nat) (hc : c < N) (d : Int) (hd : (if st = 0 ∨ st = 2 ∨ st = 3 then shz σ (σ.1 18 c) b (σ.1 19 c) else 0) = t2 σ b c + d) : Sm (t2 σ' b) N = Sm (t2 σ b) N + d := by
  have hs : ∀ k w, shz σ' k b w = shz σ k b w := fun k w => shz_congr (by rw [h12, h5]) (by rw [h12, h6]) b w
  refine Sm_upd (k0 := c) _ hc (fun j _ hn => ?_) ?_
  · unfold t2; rw [h17 j, if_neg hn, h18, h19, hs]
  · rw [← hd]
    show (if _ then _ else _) = _
    rw [h17 c, if_pos rfl, h18, h19, hs]
theorem WF_ans (h : WF n σ) {c : Nat} (h1 : c < nB σ) (h2 : σ.1 17 c = 0) (hu : tD σ + 10 ≤ 100 * n + 10) : WF n (ansS σ c) := by
  refine WF.mk' (WS_st h.1 h1 (by omega) (by decide) hu) ?_ (fun b hb => ?_)
  · refine Eq.trans h.2.1 (Eq.symm (feS_congr _ ?_)); exact fun k _ => rfl
  · have e1 : Sm (t1 (ansS σ c) b) (nC σ) = Sm (t1 σ b) (nC σ) := Sm_congr _ (fun j _ => rfl)
    have e2 := t2_st (σ := σ) (σ' := ansS σ c) (c := c) (st := 1) (fun j => by simp [ansS, up2]) rfl rfl rfl rfl rfl b (nB σ) h1 (-(shz σ (σ.1 18 c) b (σ.1 19 c))) (by unfold t2; rw [if_neg (by decide), if_pos (Or.inl h2)]; omega)
    show payN σ.2 (cBk σ (σ.1 18 c)) (sBk σ (σ.1 18 c)) (σ.1 19 c) 0 b = Sm (t1 (ansS σ c) b) (nC σ) - Sm (t2 (ansS σ c) b) (nB σ)
    rw [pay_cs, e1, e2, h.net hb]; omega
theorem WF_prs (h : WF n σ) {c : Nat} (h1 : c < nB σ) (h2 : σ.1 17 c = 1) : WF n (prsS σ c) := by
  refine WF.mk' (WS_st1 h.1 h1 (by omega) (by decide)) ?_ (fun b hb => ?_)
  · refine Eq.trans h.2.1 (Eq.symm (feS_congr _ ?_)); exact fun k _ => rfl
  · have e1 : Sm (t1 (prsS σ c) b) (nC σ) = Sm (t1 σ b) (nC σ) := Sm_congr _ (fun j _ => rfl)
    have e2 := t2_st (σ := σ) (σ' := prsS σ c) (c := c) (st := 2) (fun j => by simp [prsS, up2]) rfl rfl rfl rfl rfl b (nB σ) h1 (shz σ (σ.1 18 c) b (σ.1 19 c)) (by unfold t2; rw [if_pos (by decide), if_neg (by omega)]; omega)
    show payN σ.2 (sBk σ (σ.1 18 c)) (cBk σ (σ.1 18 c)) (σ.1 19 c) 0 b = Sm (t1 (prsS σ c) b) (nC σ) - Sm (t2 (prsS σ c) b) (nB σ)
    rw [pay_sc, e1, e2, h.net hb]; omega
theorem WF_los (h : WF n σ) {c : Nat} (h1 : c < nB σ) (h2 : σ.1 17 c = 2) : WF n (losS σ c) := by
  refine WF.mk' (WS_st1 h.1 h1 (by omega) (by decide)) ?_ (fun b hb => ?_)
  · refine Eq.trans h.2.1 (Eq.symm (feS_congr _ ?_)); exact fun k _ => rfl
  · have e1 : Sm (t1 (losS σ c) b) (nC σ) = Sm (t1 σ b) (nC σ) := Sm_congr _ (fun j _ => rfl)
    have e2 := t2_st (σ := σ) (σ' := losS σ c) (c := c) (st := 4) (fun j => by simp [losS, up2]) rfl rfl rfl rfl rfl b (nB σ) h1 (-(shz σ (σ.1 18 c) b (σ.1 19 c))) (by unfold t2; rw [if_neg (by decide), if_pos (Or.inr (Or.inl h2))]; omega)
    show payN σ.2 (cBk σ (σ.1 18 c)) (sBk σ (σ.1 18 c)) (σ.1 19 c) 0 b = Sm (t1 (losS σ c) b) (nC σ) - Sm (t2 (losS σ c) b) (nB σ)
    rw [pay_cs, e1, e2, h.net hb]; omega
theorem WF_won (h : WF n σ) {c : Nat} (h1 : c < nB σ) (h2 : σ.1 17 c = 2) : WF n (up2 σ.1 17 c 3, σ.2) := by
  refine WF.mk' (WS_st1 h.1 h1 (by omega) (by decide)) ?_ (fun b hb => ?_)
  · refine Eq.trans h.2.1 (Eq.symm (feS_congr _ ?_)); exact fun k _ => rfl
  · have e1 : Sm (t1 (up2 σ.1 17 c 3, σ.2) b) (nC σ) = Sm (t1 σ b) (nC σ) := Sm_congr _ (fun j _ => rfl)
    have e2 := t2_st (σ := σ) (σ' := (up2 σ.1 17 c 3, σ.2)) (c := c) (st := 3) (fun j => by simp [up2]) rfl rfl rfl rfl rfl b (nB σ) h1 0 (by unfold t2; rw [if_pos (by decide), if_pos (Or.inr (Or.inl h2))]; omega)
    show σ.2 0 b = Sm (t1 (up2 σ.1 17 c 3, σ.2) b) (nC σ) - Sm (t2 (up2 σ.1 17 c 3, σ.2) b) (nB σ)
    rw [e1, e2, h.net hb]; omega
theorem WF_pas (h : WF n σ) (hn : n + 1 ≤ 600) {d : Nat} (hd : d ≤ 100) : WF (n + 1) (pasS σ d) := by
  refine WF.mk' (WS_pas h.1 hn hd) ?_ (fun b hb => ?_)
  · refine Eq.trans h.2.1 (Eq.symm (feS_congr _ ?_)); exact fun k _ => rfl
  · have e1 : Sm (t1 (pasS σ d) b) (nC σ) = Sm (t1 σ b) (nC σ) := Sm_congr _ (fun j _ => rfl)
    have e2 : Sm (t2 (pasS σ d) b) (nB σ) = Sm (t2 σ b) (nB σ) := Sm_congr _ (fun j hj => by
      have hst := (h.1.2.2.2.2.2.2.2.2 j hj).1
      have a17 : (pasS σ d).1 17 j = eil (σ.1 17 j) (σ.1 20 j) (tD σ + d) := by
        show (if (17 : Nat) = 0 ∧ j = 0 then tD σ + d else if (17 : Nat) = 17 ∧ j < nB σ then eil (σ.1 17 j) (σ.1 20 j) (tD σ + d) else σ.1 17 j) = _
        rw [if_neg (by omega), if_pos ⟨rfl, hj⟩]
      have a0 : ∀ k w, shz (pasS σ d) k b w = shz σ k b w := fun k w => shz_congr rfl rfl b w
      unfold t2
      rw [a17, a0]
      show (if _ then shz σ (σ.1 18 j) b (σ.1 19 j) else 0) = _
      unfold eil
      by_cases z : σ.1 17 j ≤ 1 ∧ σ.1 20 j < tD σ + d
      · rw [if_pos z]
        rcases (show σ.1 17 j = 0 ∨ σ.1 17 j = 1 by omega) with q | q <;> rw [q] <;> rfl
      · rw [if_neg z])
    show (if 0 = 1 ∧ b < 4 then (0 : Int) else σ.2 0 b) = Sm (t1 (pasS σ d) b) (nC σ) - Sm (t2 (pasS σ d) b) (nB σ)
    rw [if_neg (by omega), e1, e2, h.net hb]
theorem WF_cap (h : WF n σ) {j v : Nat} (h1 : j < nP σ) (h2 : 1 ≤ v) (h3 : σ.1 8 j + v ≤ σ.1 7 j) (h4 : nC σ < 100) : WF n (addCap σ j v) := by
  have hr0 := h.1.2.2.2.2.2.2.2.1 (nC σ) (Nat.le_refl _)
  have a12 : ∀ k, (addCap σ j v).1 12 k = if k = nC σ then j else σ.1 12 k := fun k => by simp [addCap, up2]
  have a13 : ∀ k, (addCap σ j v).1 13 k = if k = nC σ then v else σ.1 13 k := fun k => by simp [addCap, up2]
  have a14 : ∀ k, (addCap σ j v).1 14 k = if k = nC σ then cfeN σ j v else σ.1 14 k := fun k => by simp [addCap, up2]
  have a15 : (addCap σ j v).1 15 = σ.1 15 := by funext k; simp [addCap, up2]
  have hs : ∀ k, k < nC σ → ∀ b w, shz (addCap σ j v) k b w = shz σ k b w := fun k hk b w => by
    have e : (addCap σ j v).1 12 k = σ.1 12 k := by rw [a12, if_neg (by omega)]
    exact shz_congr (by rw [e]; rfl) (by rw [e]; rfl) b w
  refine WF.mk' (WS_cap h.1 h1 h2 h3 h4) ?_ (fun b hb => ?_)
  · show σ.1 21 0 + cfeN σ j v = feS (addCap σ j v) (nC σ + 1)
    rw [feS, a14, if_pos rfl, feS_congr (σ := σ) (nC σ) (fun k hk => by rw [a14, if_neg (by omega)]), h.2.1]
  · have e1 : Sm (t1 (addCap σ j v) b) (nC σ) = Sm (t1 σ b) (nC σ) := Sm_congr _ (fun k hk => by
      unfold t1; rw [hs k hk, a13, a14, a15, if_neg (by omega), if_neg (by omega)])
    have e2 : Sm (t2 (addCap σ j v) b) (nB σ) = Sm (t2 σ b) (nB σ) := Sm_congr _ (fun i hi => by
      have e := hs _ (h.1.2.2.2.2.2.2.2.2 i hi).2.1 b
      show (if _ then shz (addCap σ j v) (σ.1 18 i) b (σ.1 19 i) else 0) = _
      rw [e]; rfl)
    have e3 : t1 (addCap σ j v) b (nC σ) = shz (addCap σ j v) (nC σ) b ((v : Int) - cfeN σ j v) := by
      unfold t1; rw [a13, a14, a15, if_pos rfl, if_pos rfl, hr0]; congr 1; omega
    have e4 : cBk (addCap σ j v) (nC σ) = σ.1 5 j / 3 := by
      show (addCap σ j v).1 5 ((addCap σ j v).1 12 (nC σ)) / 3 = _
      rw [a12, if_pos rfl]; rfl
    have e5 : sBk (addCap σ j v) (nC σ) = σ.1 6 j % 4 := by
      show (addCap σ j v).1 6 ((addCap σ j v).1 12 (nC σ)) % 4 = _
      rw [a12, if_pos rfl]; rfl
    have e6 := pay_cs σ.2 (addCap σ j v) (nC σ) b ((v : Int) - cfeN σ j v)
    rw [e4, e5] at e6
    show payN σ.2 (σ.1 5 j / 3) (σ.1 6 j % 4) ((v : Int) - (cfeN σ j v : Int)) 0 b = Sm (t1 (addCap σ j v) b) (nC σ + 1) - Sm (t2 (addCap σ j v) b) (nB σ)
    rw [Sm, e6, e1, e2, e3, h.net hb]; omega
end WFP
