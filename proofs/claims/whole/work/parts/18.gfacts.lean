theorem G.f0 {pr : Nat → Prop} {kc : Nat → ClassId} {e0 : Nat × Nat} {σ τ : Sg} {th : Int32} {o : Int64} {g : Gh} {M : Mp} (hG : G pr kc e0 σ τ th o g M) (h : pr 0) {i : Nat} (hi : i < 4) : M (g.1 0 i) = some (.inr (1, [.long (lI (σ.2 0 i)), .long (lI (σ.2 1 i))])) := hG.1 0 i ⟨h, hi⟩
theorem G.f1 {pr : Nat → Prop} {kc : Nat → ClassId} {e0 : Nat × Nat} {σ τ : Sg} {th : Int32} {o : Int64} {g : Gh} {M : Mp} (hG : G pr kc e0 σ τ th o g M) (h : pr 1) {i : Nat} (hi : i < nC σ) : M (g.1 1 i) = some (.inr (2, [.int (nI i), .ref (g.1 5 (σ.1 12 i)), .int (nI (σ.1 13 i)), .int (nI (σ.1 14 i)), .int (nI (σ.1 15 i))])) := hG.1 1 i ⟨h, hi⟩
theorem G.f2 {pr : Nat → Prop} {kc : Nat → ClassId} {e0 : Nat × Nat} {σ τ : Sg} {th : Int32} {o : Int64} {g : Gh} {M : Mp} (hG : G pr kc e0 σ τ th o g M) (h : pr 2) {i : Nat} (hi : i < 12) : M (g.1 2 i) = some (.inr (3, [.int (nI i), .ref (g.1 0 (i / 3))])) := hG.1 2 i ⟨h, hi⟩
theorem G.f3 {pr : Nat → Prop} {kc : Nat → ClassId} {e0 : Nat × Nat} {σ τ : Sg} {th : Int32} {o : Int64} {g : Gh} {M : Mp} (hG : G pr kc e0 σ τ th o g M) (h : pr 3) {i : Nat} (hi : i < nB σ) : M (g.1 3 i) = some (.inr (4, [.int (nI i), .ref (g.1 1 (σ.1 18 i)), .int (nI (σ.1 19 i)), .int (nI (σ.1 17 i)), .int (cbl (σ.1 17 i) (σ.1 20 i))])) := hG.1 3 i ⟨h, hi⟩
theorem G.f4 {pr : Nat → Prop} {kc : Nat → ClassId} {e0 : Nat × Nat} {σ τ : Sg} {th : Int32} {o : Int64} {g : Gh} {M : Mp} (hG : G pr kc e0 σ τ th o g M) (h : pr 4) {i : Nat} (hi : i < 3) : M (g.1 4 i) = some (.inr (5, [.int (nI i), .int (nI (σ.1 2 i)), .int (nI (σ.1 3 i))])) := hG.1 4 i ⟨h, hi⟩
theorem G.f5 {pr : Nat → Prop} {kc : Nat → ClassId} {e0 : Nat × Nat} {σ τ : Sg} {th : Int32} {o : Int64} {g : Gh} {M : Mp} (hG : G pr kc e0 σ τ th o g M) (h : pr 5) {i : Nat} (hi : i < nP σ) : M (g.1 5 i) = some (.inr (6, [.int (nI i), .ref (g.1 2 (σ.1 5 i)), .ref (g.1 6 (σ.1 6 i)), .int (nI (σ.1 7 i)), .int (nI (σ.1 9 i)), .int (nI (σ.1 8 i)), .int (nI (σ.1 10 i))])) := hG.1 5 i ⟨h, hi⟩
theorem G.f6 {pr : Nat → Prop} {kc : Nat → ClassId} {e0 : Nat × Nat} {σ τ : Sg} {th : Int32} {o : Int64} {g : Gh} {M : Mp} (hG : G pr kc e0 σ τ th o g M) (h : pr 6) {i : Nat} (hi : i < 8) : M (g.1 6 i) = some (.inr (7, [.int (nI i), .ref (g.1 0 (i % 4)), .ref (g.1 4 (σ.1 1 i))])) := hG.1 6 i ⟨h, hi⟩
theorem G.f7 {pr : Nat → Prop} {kc : Nat → ClassId} {e0 : Nat × Nat} {σ τ : Sg} {th : Int32} {o : Int64} {g : Gh} {M : Mp} (hG : G pr kc e0 σ τ th o g M) (h : pr 7) : M (g.1 7 0) = some (.inr (8, [.ref (g.1 8 0), .ref (g.1 8 1), .ref (g.1 8 2), .ref (g.1 8 3), .ref (g.1 9 0), .ref (g.1 9 1), .ref (g.1 9 2), .int (nI (tD σ))])) := hG.1 7 0 ⟨h, rfl⟩
theorem G.f8_0 {pr : Nat → Prop} {kc : Nat → ClassId} {e0 : Nat × Nat} {σ τ : Sg} {th : Int32} {o : Int64} {g : Gh} {M : Mp} (hG : G pr kc e0 σ τ th o g M) (h : pr 8) : M (g.1 8 0) = some (qrow (kc 3) 4 (fun j => if j < 4 then some (g.1 0 j) else none)) := hG.1 8 0 ⟨h, show 0 < 4 by decide⟩
theorem G.f8_1 {pr : Nat → Prop} {kc : Nat → ClassId} {e0 : Nat × Nat} {σ τ : Sg} {th : Int32} {o : Int64} {g : Gh} {M : Mp} (hG : G pr kc e0 σ τ th o g M) (h : pr 8) : M (g.1 8 1) = some (qrow (kc 4) 3 (fun j => if j < 3 then some (g.1 4 j) else none)) := hG.1 8 1 ⟨h, show 1 < 4 by decide⟩
theorem G.f8_2 {pr : Nat → Prop} {kc : Nat → ClassId} {e0 : Nat × Nat} {σ τ : Sg} {th : Int32} {o : Int64} {g : Gh} {M : Mp} (hG : G pr kc e0 σ τ th o g M) (h : pr 8) : M (g.1 8 2) = some (qrow (kc 5) 8 (fun j => if j < 8 then some (g.1 6 j) else none)) := hG.1 8 2 ⟨h, show 2 < 4 by decide⟩
theorem G.f8_3 {pr : Nat → Prop} {kc : Nat → ClassId} {e0 : Nat × Nat} {σ τ : Sg} {th : Int32} {o : Int64} {g : Gh} {M : Mp} (hG : G pr kc e0 σ τ th o g M) (h : pr 8) : M (g.1 8 3) = some (qrow (kc 6) 12 (fun j => if j < 12 then some (g.1 2 j) else none)) := hG.1 8 3 ⟨h, show 3 < 4 by decide⟩
theorem G.f9_0 {pr : Nat → Prop} {kc : Nat → ClassId} {e0 : Nat × Nat} {σ τ : Sg} {th : Int32} {o : Int64} {g : Gh} {M : Mp} (hG : G pr kc e0 σ τ th o g M) (h : pr 9) : M (g.1 9 0) = some (.inr (0, [.int (g.2.2.2 0), .ref (lar e0 σ g 0), .int (nI (nP σ))])) := hG.1 9 0 ⟨h, show 0 < 3 by decide⟩
theorem G.ls0 {pr : Nat → Prop} {kc : Nat → ClassId} {e0 : Nat × Nat} {σ τ : Sg} {th : Int32} {o : Int64} {g : Gh} {M : Mp} (hG : G pr kc e0 σ τ th o g M) (h9 : pr 9) (h10 : pr 10) (ht : pr 5) (hlim : nP σ < 100) : lsOk kc e0 M 6 (lar e0 σ g 0) (nP σ) (g.2.1 0) (g.2.2.1 0) := by
  have e : cnt σ 0 = nP σ := rfl
  rcases Nat.eq_zero_or_pos (nP σ) with q | q
  · exact Or.inl ⟨q, by unfold lar; rw [e, if_pos q]⟩
  · have hl : lar e0 σ g 0 = g.1 10 0 := by unfold lar; rw [e, if_neg (by omega)]
    obtain ⟨k1, k2⟩ := hG.2.2 0 (by decide)
    rw [e] at k2
    obtain ⟨k3, k6, k4, k5⟩ := k2 q
    refine Or.inr ⟨q, by rw [hl]; exact hG.1 10 0 ⟨h10, by decide, q⟩, k3, k6, k4, fun z => by omega, fun j hj => ?_⟩
    exact ⟨_, _, k5 j hj, hG.f5 ht hj⟩
theorem G.el0 {pr : Nat → Prop} {kc : Nat → ClassId} {e0 : Nat × Nat} {σ τ : Sg} {th : Int32} {o : Int64} {g : Gh} {M : Mp} (hG : G pr kc e0 σ τ th o g M) (h10 : pr 10) {j : Nat} (hj : j < nP σ) : lar e0 σ g 0 = g.1 10 0 ∧ M (lar e0 σ g 0) = some (qrow (kc 7) (g.2.1 0) (g.2.2.1 0)) ∧ nP σ ≤ g.2.1 0 ∧ g.2.1 0 ≤ 200 ∧ g.2.2.1 0 j = some (g.1 5 j) := by
  have e : cnt σ 0 = nP σ := rfl
  have q : 0 < nP σ := by omega
  have hl : lar e0 σ g 0 = g.1 10 0 := by unfold lar; rw [e, if_neg (by omega)]
  obtain ⟨k1, k2⟩ := hG.2.2 0 (by decide)
  rw [e] at k2
  obtain ⟨k3, k6, k4, k5⟩ := k2 q
  exact ⟨hl, by rw [hl]; exact hG.1 10 0 ⟨h10, by decide, q⟩, k3, k4, k5 j hj⟩
theorem G.f9_1 {pr : Nat → Prop} {kc : Nat → ClassId} {e0 : Nat × Nat} {σ τ : Sg} {th : Int32} {o : Int64} {g : Gh} {M : Mp} (hG : G pr kc e0 σ τ th o g M) (h : pr 9) : M (g.1 9 1) = some (.inr (0, [.int (g.2.2.2 1), .ref (lar e0 σ g 1), .int (nI (nC σ))])) := hG.1 9 1 ⟨h, show 1 < 3 by decide⟩
theorem G.ls1 {pr : Nat → Prop} {kc : Nat → ClassId} {e0 : Nat × Nat} {σ τ : Sg} {th : Int32} {o : Int64} {g : Gh} {M : Mp} (hG : G pr kc e0 σ τ th o g M) (h9 : pr 9) (h10 : pr 10) (ht : pr 1) (hlim : nC σ < 100) : lsOk kc e0 M 2 (lar e0 σ g 1) (nC σ) (g.2.1 1) (g.2.2.1 1) := by
  have e : cnt σ 1 = nC σ := rfl
  rcases Nat.eq_zero_or_pos (nC σ) with q | q
  · exact Or.inl ⟨q, by unfold lar; rw [e, if_pos q]⟩
  · have hl : lar e0 σ g 1 = g.1 10 1 := by unfold lar; rw [e, if_neg (by omega)]
    obtain ⟨k1, k2⟩ := hG.2.2 1 (by decide)
    rw [e] at k2
    obtain ⟨k3, k6, k4, k5⟩ := k2 q
    refine Or.inr ⟨q, by rw [hl]; exact hG.1 10 1 ⟨h10, by decide, q⟩, k3, k6, k4, fun z => by omega, fun j hj => ?_⟩
    exact ⟨_, _, k5 j hj, hG.f1 ht hj⟩
theorem G.el1 {pr : Nat → Prop} {kc : Nat → ClassId} {e0 : Nat × Nat} {σ τ : Sg} {th : Int32} {o : Int64} {g : Gh} {M : Mp} (hG : G pr kc e0 σ τ th o g M) (h10 : pr 10) {j : Nat} (hj : j < nC σ) : lar e0 σ g 1 = g.1 10 1 ∧ M (lar e0 σ g 1) = some (qrow (kc 7) (g.2.1 1) (g.2.2.1 1)) ∧ nC σ ≤ g.2.1 1 ∧ g.2.1 1 ≤ 200 ∧ g.2.2.1 1 j = some (g.1 1 j) := by
  have e : cnt σ 1 = nC σ := rfl
  have q : 0 < nC σ := by omega
  have hl : lar e0 σ g 1 = g.1 10 1 := by unfold lar; rw [e, if_neg (by omega)]
  obtain ⟨k1, k2⟩ := hG.2.2 1 (by decide)
  rw [e] at k2
  obtain ⟨k3, k6, k4, k5⟩ := k2 q
  exact ⟨hl, by rw [hl]; exact hG.1 10 1 ⟨h10, by decide, q⟩, k3, k4, k5 j hj⟩
theorem G.f9_2 {pr : Nat → Prop} {kc : Nat → ClassId} {e0 : Nat × Nat} {σ τ : Sg} {th : Int32} {o : Int64} {g : Gh} {M : Mp} (hG : G pr kc e0 σ τ th o g M) (h : pr 9) : M (g.1 9 2) = some (.inr (0, [.int (g.2.2.2 2), .ref (lar e0 σ g 2), .int (nI (nB σ))])) := hG.1 9 2 ⟨h, show 2 < 3 by decide⟩
theorem G.ls2 {pr : Nat → Prop} {kc : Nat → ClassId} {e0 : Nat × Nat} {σ τ : Sg} {th : Int32} {o : Int64} {g : Gh} {M : Mp} (hG : G pr kc e0 σ τ th o g M) (h9 : pr 9) (h10 : pr 10) (ht : pr 3) (hlim : nB σ < 100) : lsOk kc e0 M 4 (lar e0 σ g 2) (nB σ) (g.2.1 2) (g.2.2.1 2) := by
  have e : cnt σ 2 = nB σ := rfl
  rcases Nat.eq_zero_or_pos (nB σ) with q | q
  · exact Or.inl ⟨q, by unfold lar; rw [e, if_pos q]⟩
  · have hl : lar e0 σ g 2 = g.1 10 2 := by unfold lar; rw [e, if_neg (by omega)]
    obtain ⟨k1, k2⟩ := hG.2.2 2 (by decide)
    rw [e] at k2
    obtain ⟨k3, k6, k4, k5⟩ := k2 q
    refine Or.inr ⟨q, by rw [hl]; exact hG.1 10 2 ⟨h10, by decide, q⟩, k3, k6, k4, fun z => by omega, fun j hj => ?_⟩
    exact ⟨_, _, k5 j hj, hG.f3 ht hj⟩
theorem G.el2 {pr : Nat → Prop} {kc : Nat → ClassId} {e0 : Nat × Nat} {σ τ : Sg} {th : Int32} {o : Int64} {g : Gh} {M : Mp} (hG : G pr kc e0 σ τ th o g M) (h10 : pr 10) {j : Nat} (hj : j < nB σ) : lar e0 σ g 2 = g.1 10 2 ∧ M (lar e0 σ g 2) = some (qrow (kc 7) (g.2.1 2) (g.2.2.1 2)) ∧ nB σ ≤ g.2.1 2 ∧ g.2.1 2 ≤ 200 ∧ g.2.2.1 2 j = some (g.1 3 j) := by
  have e : cnt σ 2 = nB σ := rfl
  have q : 0 < nB σ := by omega
  have hl : lar e0 σ g 2 = g.1 10 2 := by unfold lar; rw [e, if_neg (by omega)]
  obtain ⟨k1, k2⟩ := hG.2.2 2 (by decide)
  rw [e] at k2
  obtain ⟨k3, k6, k4, k5⟩ := k2 q
  exact ⟨hl, by rw [hl]; exact hG.1 10 2 ⟨h10, by decide, q⟩, k3, k4, k5 j hj⟩
theorem G.setKd {pr : Nat → Prop} {kc : Nat → ClassId} {e0 : Nat × Nat} {σ τ : Sg} {th : Int32} {o : Int64} {g : Gh} {M : Mp} (hG : G pr kc e0 σ τ th o g M) (h : pr 6) {i v : Nat} (hi : i < 8) : G pr kc e0 (up2 σ.1 1 i v, σ.2) τ th o g (mu M (g.1 6 i) (.inr (7, [.int (nI i), .ref (g.1 0 (i % 4)), .ref (g.1 4 v)]))) := by
  refine hG.upd (t := 6) (i := i) ⟨h, hi⟩ (σ' := (up2 σ.1 1 i v, σ.2)) ?_ (by simp [up2]) (by simp [up2]) (by simp [up2]) (fun t' i' hr hn => ?_)
  · simp [gcell, up2]
  · refine gc_sig kc e0 τ th o g ?_
    unfold gdep
    skip
    split <;> simp_all [up2, cnt]
theorem G.setKn {pr : Nat → Prop} {kc : Nat → ClassId} {e0 : Nat × Nat} {σ τ : Sg} {th : Int32} {o : Int64} {g : Gh} {M : Mp} (hG : G pr kc e0 σ τ th o g M) (h : pr 4) {i v w : Nat} (hi : i < 3) : G pr kc e0 (up2 (up2 σ.1 2 i v) 3 i w, σ.2) τ th o g (mu M (g.1 4 i) (.inr (5, [.int (nI i), .int (nI v), .int (nI w)]))) := by
  refine hG.upd (t := 4) (i := i) ⟨h, hi⟩ (σ' := (up2 (up2 σ.1 2 i v) 3 i w, σ.2)) ?_ (by simp [up2]) (by simp [up2]) (by simp [up2]) (fun t' i' hr hn => ?_)
  · simp [gcell, up2]
  · refine gc_sig kc e0 τ th o g ?_
    unfold gdep
    skip
    split <;> simp_all [up2, cnt]
theorem G.setPk {pr : Nat → Prop} {kc : Nat → ClassId} {e0 : Nat × Nat} {σ τ : Sg} {th : Int32} {o : Int64} {g : Gh} {M : Mp} (hG : G pr kc e0 σ τ th o g M) (h : pr 5) {i v : Nat} (hi : i < nP σ) : G pr kc e0 (up2 σ.1 8 i v, σ.2) τ th o g (mu M (g.1 5 i) (.inr (6, [.int (nI i), .ref (g.1 2 (σ.1 5 i)), .ref (g.1 6 (σ.1 6 i)), .int (nI (σ.1 7 i)), .int (nI (σ.1 9 i)), .int (nI v), .int (nI (σ.1 10 i))]))) := by
  refine hG.upd (t := 5) (i := i) ⟨h, hi⟩ (σ' := (up2 σ.1 8 i v, σ.2)) ?_ (by simp [up2]) (by simp [up2]) (by simp [up2]) (fun t' i' hr hn => ?_)
  · simp [gcell, up2]
  · refine gc_sig kc e0 τ th o g ?_
    unfold gdep
    skip
    split <;> simp_all [up2, cnt]
theorem G.setPv {pr : Nat → Prop} {kc : Nat → ClassId} {e0 : Nat × Nat} {σ τ : Sg} {th : Int32} {o : Int64} {g : Gh} {M : Mp} (hG : G pr kc e0 σ τ th o g M) (h : pr 5) {i v : Nat} (hi : i < nP σ) : G pr kc e0 (up2 σ.1 10 i v, σ.2) τ th o g (mu M (g.1 5 i) (.inr (6, [.int (nI i), .ref (g.1 2 (σ.1 5 i)), .ref (g.1 6 (σ.1 6 i)), .int (nI (σ.1 7 i)), .int (nI (σ.1 9 i)), .int (nI (σ.1 8 i)), .int (nI v)]))) := by
  refine hG.upd (t := 5) (i := i) ⟨h, hi⟩ (σ' := (up2 σ.1 10 i v, σ.2)) ?_ (by simp [up2]) (by simp [up2]) (by simp [up2]) (fun t' i' hr hn => ?_)
  · simp [gcell, up2]
  · refine gc_sig kc e0 τ th o g ?_
    unfold gdep
    skip
    split <;> simp_all [up2, cnt]
theorem G.setCr {pr : Nat → Prop} {kc : Nat → ClassId} {e0 : Nat × Nat} {σ τ : Sg} {th : Int32} {o : Int64} {g : Gh} {M : Mp} (hG : G pr kc e0 σ τ th o g M) (h : pr 1) {i v : Nat} (hi : i < nC σ) : G pr kc e0 (up2 σ.1 15 i v, σ.2) τ th o g (mu M (g.1 1 i) (.inr (2, [.int (nI i), .ref (g.1 5 (σ.1 12 i)), .int (nI (σ.1 13 i)), .int (nI (σ.1 14 i)), .int (nI v)]))) := by
  refine hG.upd (t := 1) (i := i) ⟨h, hi⟩ (σ' := (up2 σ.1 15 i v, σ.2)) ?_ (by simp [up2]) (by simp [up2]) (by simp [up2]) (fun t' i' hr hn => ?_)
  · simp [gcell, up2]
  · refine gc_sig kc e0 τ th o g ?_
    unfold gdep
    skip
    split <;> simp_all [up2, cnt]
theorem G.setSt {pr : Nat → Prop} {kc : Nat → ClassId} {e0 : Nat × Nat} {σ τ : Sg} {th : Int32} {o : Int64} {g : Gh} {M : Mp} (hG : G pr kc e0 σ τ th o g M) (h : pr 3) {i v : Nat} (hi : i < nB σ) : G pr kc e0 (up2 σ.1 17 i v, σ.2) τ th o g (mu M (g.1 3 i) (.inr (4, [.int (nI i), .ref (g.1 1 (σ.1 18 i)), .int (nI (σ.1 19 i)), .int (nI v), .int (cbl v (σ.1 20 i))]))) := by
  refine hG.upd (t := 3) (i := i) ⟨h, hi⟩ (σ' := (up2 σ.1 17 i v, σ.2)) ?_ (by simp [up2]) (by simp [up2]) (by simp [up2]) (fun t' i' hr hn => ?_)
  · simp [gcell, up2]
  · refine gc_sig kc e0 τ th o g ?_
    unfold gdep
    skip
    split <;> simp_all [up2, cnt]
theorem G.setCb {pr : Nat → Prop} {kc : Nat → ClassId} {e0 : Nat × Nat} {σ τ : Sg} {th : Int32} {o : Int64} {g : Gh} {M : Mp} (hG : G pr kc e0 σ τ th o g M) (h : pr 3) {i v w : Nat} (hi : i < nB σ) : G pr kc e0 (up2 (up2 σ.1 17 i v) 20 i w, σ.2) τ th o g (mu M (g.1 3 i) (.inr (4, [.int (nI i), .ref (g.1 1 (σ.1 18 i)), .int (nI (σ.1 19 i)), .int (nI v), .int (cbl v w)]))) := by
  refine hG.upd (t := 3) (i := i) ⟨h, hi⟩ (σ' := (up2 (up2 σ.1 17 i v) 20 i w, σ.2)) ?_ (by simp [up2]) (by simp [up2]) (by simp [up2]) (fun t' i' hr hn => ?_)
  · simp [gcell, up2]
  · refine gc_sig kc e0 τ th o g ?_
    unfold gdep
    skip
    split <;> simp_all [up2, cnt]
theorem G.setDay {pr : Nat → Prop} {kc : Nat → ClassId} {e0 : Nat × Nat} {σ τ : Sg} {th : Int32} {o : Int64} {g : Gh} {M : Mp} (hG : G pr kc e0 σ τ th o g M) (h : pr 7) {v : Nat} : G pr kc e0 (up2 σ.1 0 0 v, σ.2) τ th o g (mu M (g.1 7 0) (.inr (8, [.ref (g.1 8 0), .ref (g.1 8 1), .ref (g.1 8 2), .ref (g.1 8 3), .ref (g.1 9 0), .ref (g.1 9 1), .ref (g.1 9 2), .int (nI v)]))) := by
  refine hG.upd (t := 7) (i := 0) ⟨h, rfl⟩ (σ' := (up2 σ.1 0 0 v, σ.2)) ?_ (by simp [up2]) (by simp [up2]) (by simp [up2]) (fun t' i' hr hn => ?_)
  · simp [gcell, up2]
  · refine gc_sig kc e0 τ th o g ?_
    unfold gdep
    have hr2 := hr.2
    split <;> first | exact absurd ⟨rfl, hr2⟩ hn | simp_all [up2, cnt]
theorem G.setBk {pr : Nat → Prop} {kc : Nat → ClassId} {e0 : Nat × Nat} {σ τ : Sg} {th : Int32} {o : Int64} {g : Gh} {M : Mp} (hG : G pr kc e0 σ τ th o g M) (h : pr 0) {i : Nat} {v w : Int} (hi : i < 4) : G pr kc e0 (σ.1, up2 (up2 σ.2 0 i v) 1 i w) τ th o g (mu M (g.1 0 i) (.inr (1, [.long (lI v), .long (lI w)]))) := by
  refine hG.upd (t := 0) (i := i) ⟨h, hi⟩ (σ' := (σ.1, up2 (up2 σ.2 0 i v) 1 i w)) ?_ (by simp [up2]) (by simp [up2]) (by simp [up2]) (fun t' i' hr hn => ?_)
  · simp [gcell, up2]
  · refine gc_sig kc e0 τ th o g ?_
    unfold gdep
    skip
    split <;> simp_all [up2, cnt]
theorem lI_add (x y : Int) : lI x + lI y = lI (x + y) := (Int64.ofInt_add x y).symm
theorem lI_neg (x : Int) : -(lI x) = lI (-x) := (Int64.ofInt_neg x).symm
theorem lI_nI {v : Nat} (h : v < 2147483648) : (nI v).toInt64 = lI (v : Int) := by
  rw [← Int64.toInt_inj, Int32.toInt_toInt64, nI_tI h]
  unfold lI
  rw [Int64.toInt_ofInt_of_le (by omega) (by omega)]
theorem lI_nnI {v : Nat} (h : v < 2147483648) : (-(nI v)).toInt64 = lI (-(v : Int)) := by
  rw [← Int64.toInt_inj, Int32.toInt_toInt64]
  have e : (-(nI v)).toInt = -(v : Int) := sb_negT h
  rw [e]
  unfold lI
  rw [Int64.toInt_ofInt_of_le (by omega) (by omega)]
/-- bank a pays bank b, in the heap -/
theorem G.pay {pr : Nat → Prop} {kc : Nat → ClassId} {e0 : Nat × Nat} {σ τ : Sg} {th : Int32} {o : Int64} {g : Gh} {M : Mp} (hG : G pr kc e0 σ τ th o g M) (h : pr 0) {a b v : Nat} (ha : a < 4) (hb : b < 4) (hv : v < 2147483648) : G pr kc e0 (σ.1, payN σ.2 a b v) τ th o g (mu (mu M (g.1 0 a) (.inr (1, [.long (lI (σ.2 0 a) + (-(nI v)).toInt64), .long (lI (σ.2 1 a) + (-(nI v)).toInt64)]))) (g.1 0 b) (if g.1 0 b = g.1 0 a then .inr (1, [.long (lI (σ.2 0 a) + (-(nI v)).toInt64 + (nI v).toInt64), .long (lI (σ.2 1 a) + (-(nI v)).toInt64 + (nI v).toInt64)]) else .inr (1, [.long (lI (σ.2 0 b) + (nI v).toInt64), .long (lI (σ.2 1 b) + (nI v).toInt64)]))) := by
  rw [lI_nI hv, lI_nnI hv]
  simp only [lI_add]
  have g1 := hG.setBk h (i := a) (v := σ.2 0 a + -(v : Int)) (w := σ.2 1 a + -(v : Int)) ha
  by_cases hab : b = a
  · subst hab
    rw [if_pos rfl]
    have g2 := g1.setBk h (i := b) (v := σ.2 0 b + -(v : Int) + v) (w := σ.2 1 b + -(v : Int) + v) ha
    have e : up2 (up2 (up2 (up2 σ.2 0 b (σ.2 0 b + -(v : Int))) 1 b (σ.2 1 b + -(v : Int))) 0 b (σ.2 0 b + -(v : Int) + v)) 1 b (σ.2 1 b + -(v : Int) + v) = payN σ.2 b b v := by
      funext t i
      unfold payN up2
      by_cases h1 : t = 1 <;> by_cases h0 : t = 0 <;> by_cases hi : i = b <;> simp [h1, h0, hi] <;> omega
    simp only [e] at g2
    exact g2
  · rw [if_neg (fun z => hab (hG.2.1 0 b 0 a ⟨h, hb⟩ ⟨h, ha⟩ z).2)]
    have g2 := g1.setBk h (i := b) (v := σ.2 0 b + (v : Int)) (w := σ.2 1 b + (v : Int)) hb
    have e : up2 (up2 (up2 (up2 σ.2 0 a (σ.2 0 a + -(v : Int))) 1 a (σ.2 1 a + -(v : Int))) 0 b (σ.2 0 b + (v : Int))) 1 b (σ.2 1 b + (v : Int)) = payN σ.2 a b v := by
      funext t i
      unfold payN up2
      by_cases h1 : t = 1 <;> by_cases h0 : t = 0 <;> by_cases hi : i = b <;> by_cases hj : i = a <;> simp [h1, h0, hi, hj] <;> omega
    simp only [e] at g2
    exact g2
