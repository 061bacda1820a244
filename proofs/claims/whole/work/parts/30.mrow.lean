/-! the model's rows -/
abbrev updI (f : Nat → Int32) (k : Nat) (x : Int32) : Nat → Int32 := upd f k x
section MRW
variable {pr : Nat → Prop} {kc : Nat → ClassId} {e0 : Nat × Nat} {σ τ : Sg} {th : Int32} {o : Int64} {g : Gh} {M : Mp}
theorem G.f11 (hG : G pr kc e0 σ τ th o g M) (h : pr 11) : M (g.1 11 0) = some (.inr (9, mobj τ th g.1)) := hG.1 11 0 ⟨h, rfl⟩
theorem G.f12 (hG : G pr kc e0 σ τ th o g M) (h : pr 12) {k : Nat} (hk : k ∈ mints) : M (g.1 12 k) = some (irow (kc 0) (mlen k) (fun j => nI (τ.1 k j))) := by
  have h1 := hG.1 12 k ⟨h, show k ∈ marrs from List.mem_append_left _ hk⟩
  have h2 : k ≠ 10 := fun z => absurd (z ▸ hk) (by decide)
  have h3 : k ≠ 22 := fun z => absurd (z ▸ hk) (by decide)
  have h4 : k ≠ 23 := fun z => absurd (z ▸ hk) (by decide)
  rw [h1]
  simp only [gcell]
  rw [if_neg h2, if_neg h3, if_neg h4]
theorem G.f12z (hG : G pr kc e0 σ τ th o g M) (h : pr 12) : M (g.1 12 10) = some (irow (kc 2) 60 (fun j => nI (τ.1 10 j))) := hG.1 12 10 ⟨h, show 10 ∈ marrs by decide⟩
theorem G.f12a (hG : G pr kc e0 σ τ th o g M) (h : pr 12) : M (g.1 12 22) = some (lrow (kc 1) 4 (fun j => lI (τ.2 0 j))) := hG.1 12 22 ⟨h, show 22 ∈ marrs by decide⟩
theorem G.f12t (hG : G pr kc e0 σ τ th o g M) (h : pr 12) : M (g.1 12 23) = some (lrow (kc 1) 4 (fun j => lI (τ.2 1 j))) := hG.1 12 23 ⟨h, show 23 ∈ marrs by decide⟩
theorem gc_m (kc : Nat → ClassId) (e0 : Nat × Nat) (σ : Sg) {τ τ' : Sg} {th th' : Int32} (o : Int64) (g : Gh) {t i : Nat} (h11 : t = 11 → mobj τ' th' g.1 = mobj τ th g.1) (h12 : t = 12 → (∀ j, τ'.1 i j = τ.1 i j) ∧ (i = 22 → ∀ j, τ'.2 0 j = τ.2 0 j) ∧ (i = 23 → ∀ j, τ'.2 1 j = τ.2 1 j)) : gcell kc e0 σ τ' th' o g t i = gcell kc e0 σ τ th o g t i := by
  by_cases e1 : t = 11
  · subst e1; simp only [gcell]; rw [h11 rfl]
  · by_cases e2 : t = 12
    · subst e2
      obtain ⟨h1, h2, h3⟩ := h12 rfl
      simp only [gcell]
      by_cases z1 : i = 10
      · subst z1; simp [h1]
      · rw [if_neg z1, if_neg z1]
        by_cases z2 : i = 22
        · rw [if_pos z2, if_pos z2]; simp only [h2 z2]
        · rw [if_neg z2, if_neg z2]
          by_cases z3 : i = 23
          · rw [if_pos z3, if_pos z3]; simp only [h3 z3]
          · rw [if_neg z3, if_neg z3]; simp only [h1]
    · exact gc_tau kc e0 σ τ τ' th th' o g t i e1 e2
theorem mints_ne {k : Nat} (hk : k ∈ mints) : k ≠ 0 ∧ k ≠ 4 ∧ k ≠ 11 ∧ k ≠ 16 ∧ k ≠ 21 ∧ k ≠ 10 ∧ k ≠ 22 ∧ k ≠ 23 := by
  refine ⟨?_, ?_, ?_, ?_, ?_, ?_, ?_, ?_⟩ <;> exact fun z => absurd (z ▸ hk) (by decide)
theorem G.setM (hG : G pr kc e0 σ τ th o g M) (h : pr 12) {k j v : Nat} (hk : k ∈ mints) : G pr kc e0 σ (up2 τ.1 k j v, τ.2) th o g (mu M (g.1 12 k) (irow (kc 0) (mlen k) (updI (fun j => nI (τ.1 k j)) j (nI v)))) := by
  obtain ⟨n0, n4, n11, n16, n21, n10, n22, n23⟩ := mints_ne hk
  refine hG.upd (t := 12) (i := k) ⟨h, show k ∈ marrs from List.mem_append_left _ hk⟩ ?_ rfl rfl rfl (fun t' i' hr hn => ?_)
  · simp only [gcell]
    rw [if_neg n10, if_neg n22, if_neg n23]
    have e9 : updI (fun j => nI (τ.1 k j)) j (nI v) = fun j' => nI (up2 τ.1 k j v k j') := by
      funext j'
      show (if j' = j then nI v else nI (τ.1 k j')) = nI (up2 τ.1 k j v k j')
      by_cases e : j' = j <;> simp [up2, e]
    rw [e9]
  · refine gc_m kc e0 σ o g (fun _ => ?_) (fun e => ⟨fun j' => ?_, fun _ _ => rfl, fun _ _ => rfl⟩)
    · simp [mobj, up2, Ne.symm n0, Ne.symm n4, Ne.symm n11, Ne.symm n16, Ne.symm n21]
    · have e9 : i' ≠ k := fun z => hn ⟨e, z⟩
      simp [up2, e9]
theorem G.setZ (hG : G pr kc e0 σ τ th o g M) (h : pr 12) {j : Nat} : G pr kc e0 σ (up2 τ.1 10 j 1, τ.2) th o g (mu M (g.1 12 10) (irow (kc 2) 60 (updI (fun j => nI (τ.1 10 j)) j (nI 1)))) := by
  refine hG.upd (t := 12) (i := 10) ⟨h, show 10 ∈ marrs by decide⟩ ?_ rfl rfl rfl (fun t' i' hr hn => ?_)
  · have e9 : updI (fun j => nI (τ.1 10 j)) j (nI 1) = fun j' => nI (up2 τ.1 10 j 1 10 j') := by
      funext j'
      show (if j' = j then nI 1 else nI (τ.1 10 j')) = nI (up2 τ.1 10 j 1 10 j')
      by_cases e : j' = j <;> simp [up2, e]
    rw [e9]; rfl
  · refine gc_m kc e0 σ o g (fun _ => ?_) (fun e => ⟨fun j' => ?_, fun _ _ => rfl, fun _ _ => rfl⟩)
    · simp [mobj, up2]
    · have e9 : i' ≠ 10 := fun z => hn ⟨e, z⟩
      simp [up2, e9]
theorem G.setA (hG : G pr kc e0 σ τ th o g M) (h : pr 12) {j : Nat} {v : Int} : G pr kc e0 σ (τ.1, up2 τ.2 0 j v) th o g (mu M (g.1 12 22) (lrow (kc 1) 4 (vp_updL (fun j => lI (τ.2 0 j)) j (lI v)))) := by
  refine hG.upd (t := 12) (i := 22) ⟨h, show 22 ∈ marrs by decide⟩ ?_ rfl rfl rfl (fun t' i' hr hn => ?_)
  · have e9 : vp_updL (fun j => lI (τ.2 0 j)) j (lI v) = fun j' => lI (up2 τ.2 0 j v 0 j') := by
      funext j'
      unfold vp_updL
      by_cases e : j' = j <;> simp [up2, e]
    rw [e9]; rfl
  · refine gc_m kc e0 σ o g (fun _ => rfl) (fun e => ⟨fun _ => rfl, fun z => absurd ⟨e, z⟩ hn, fun z j' => ?_⟩)
    simp [up2]
theorem G.setT (hG : G pr kc e0 σ τ th o g M) (h : pr 12) {j : Nat} {v : Int} : G pr kc e0 σ (τ.1, up2 τ.2 1 j v) th o g (mu M (g.1 12 23) (lrow (kc 1) 4 (vp_updL (fun j => lI (τ.2 1 j)) j (lI v)))) := by
  refine hG.upd (t := 12) (i := 23) ⟨h, show 23 ∈ marrs by decide⟩ ?_ rfl rfl rfl (fun t' i' hr hn => ?_)
  · have e9 : vp_updL (fun j => lI (τ.2 1 j)) j (lI v) = fun j' => lI (up2 τ.2 1 j v 1 j') := by
      funext j'
      unfold vp_updL
      by_cases e : j' = j <;> simp [up2, e]
    rw [e9]; rfl
  · refine gc_m kc e0 σ o g (fun _ => rfl) (fun e => ⟨fun _ => rfl, fun z j' => ?_, fun z => absurd ⟨e, z⟩ hn⟩)
    simp [up2]
theorem G.setF (hG : G pr kc e0 σ τ th o g M) (h : pr 11) {k v : Nat} (hk : k ∈ [0, 4, 11, 16, 21]) : G pr kc e0 σ (up2 τ.1 k 0 v, τ.2) th o g (mu M (g.1 11 0) (.inr (9, mobj (up2 τ.1 k 0 v, τ.2) th g.1))) := by
  refine hG.upd (t := 11) (i := 0) ⟨h, rfl⟩ rfl rfl rfl rfl (fun t' i' hr hn => ?_)
  refine gc_m kc e0 σ o g (fun e => absurd ⟨e, ?_⟩ hn) (fun e => ⟨fun j' => ?_, fun _ _ => rfl, fun _ _ => rfl⟩)
  · have hm : i' ∈ marrs := by subst e; exact hr.2
    have e9 : i' ≠ k := fun z => by
      rw [z] at hm
      revert hm
      simp only [List.mem_cons, List.not_mem_nil, or_false] at hk
      rcases hk with rfl | rfl | rfl | rfl | rfl <;> decide
    simp [up2, e9]
  · subst e; exact hr.2
theorem G.setTh (hG : G pr kc e0 σ τ th o g M) (h : pr 11) (w : Int32) : G pr kc e0 σ τ w o g (mu M (g.1 11 0) (.inr (9, mobj τ w g.1))) := by
  refine hG.upd (t := 11) (i := 0) ⟨h, rfl⟩ rfl rfl rfl rfl (fun t' i' hr hn => ?_)
  refine gc_m kc e0 σ o g (fun e => absurd ⟨e, ?_⟩ hn) (fun e => ⟨fun j' => rfl, fun _ _ => rfl, fun _ _ => rfl⟩)
  subst e; exact hr.2
end MRW
section MRW2
variable {p : Program} {l : Launch} {e : Env} {R : Room} {s : State} {m : MethodId} {args : Array Value} {below : List Frame} {meth : Method} {c : Code} {H : Heap} {locs : List Loc} {cells slots : Nat} {Q : State → Prop} {cc : ByteArray} {nL : Nat} {own : String} {Ts : List Cond} {D : va_G} {kc : Nat → ClassId} {A : Nat → Prop} {M : Mp} {pc : Nat} {ls : Array Slot} {rest : List Value}
variable {pr : Nat → Prop} {e0 : Nat × Nat} {σ τ : Sg} {th : Int32} {o : Int64} {g : Gh}
theorem mlen_lt (k : Nat) : mlen k < 2147483648 := by unfold mlen; (repeat' split) <;> decide
theorem g_iald (X : mX p s m args c cc nL own Ts D kc) (Y : mY D A M s H locs) (hG : G pr kc e0 σ τ th o g M) (h : pr 12) {k : Nat} (hk : k ∈ mints) {j : Nat} (hj : j < mlen k) {v : Nat} (hv : τ.1 k j = v) (hdg : decode cc pc = .ok (.iaload, 1))
    (kk : W p l e R s m args below meth c H locs cells slots Q (F0 m (pc + 1) ls (.int (nI v) :: rest))) : W p l e R s m args below meth c H locs cells slots Q (F0 m pc ls (.int (nI j) :: .ref (g.1 12 k) :: rest)) := by
  have hl := mlen_lt k
  exact m_iald X Y (hG.f12 h hk) (vp_in_nI hj hl) (by show nI (τ.1 k _) = nI v; rw [nI_cl (by omega), hv]) hdg kk
theorem g_zald (X : mX p s m args c cc nL own Ts D kc) (Y : mY D A M s H locs) (hG : G pr kc e0 σ τ th o g M) (h : pr 12) {j : Nat} (hj : j < 60) {v : Nat} (hv : τ.1 10 j = v) (hdg : decode cc pc = .ok (.baload, 1))
    (kk : W p l e R s m args below meth c H locs cells slots Q (F0 m (pc + 1) ls (.int (nI v) :: rest))) : W p l e R s m args below meth c H locs cells slots Q (F0 m pc ls (.int (nI j) :: .ref (g.1 12 10) :: rest)) :=
  m_zald X Y (hG.f12z h) (vp_in_nI hj (by decide)) (by show nI (τ.1 10 _) = nI v; rw [nI_cl (by omega), hv]) hdg kk
theorem g_alld (X : mX p s m args c cc nL own Ts D kc) (Y : mY D A M s H locs) (hG : G pr kc e0 σ τ th o g M) (h : pr 12) {j : Nat} (hj : j < 4) {v : Int} (hv : τ.2 0 j = v) (hdg : decode cc pc = .ok (.laload, 1))
    (kk : W p l e R s m args below meth c H locs cells slots Q (F0 m (pc + 1) ls (.long (lI v) :: rest))) : W p l e R s m args below meth c H locs cells slots Q (F0 m pc ls (.int (nI j) :: .ref (g.1 12 22) :: rest)) :=
  m_lald X Y (hG.f12a h) (vp_in_nI hj (by decide)) (by show lI (τ.2 0 _) = lI v; rw [nI_cl (by omega), hv]) hdg kk
theorem g_tlld (X : mX p s m args c cc nL own Ts D kc) (Y : mY D A M s H locs) (hG : G pr kc e0 σ τ th o g M) (h : pr 12) {j : Nat} (hj : j < 4) {v : Int} (hv : τ.2 1 j = v) (hdg : decode cc pc = .ok (.laload, 1))
    (kk : W p l e R s m args below meth c H locs cells slots Q (F0 m (pc + 1) ls (.long (lI v) :: rest))) : W p l e R s m args below meth c H locs cells slots Q (F0 m pc ls (.int (nI j) :: .ref (g.1 12 23) :: rest)) :=
  m_lald X Y (hG.f12t h) (vp_in_nI hj (by decide)) (by show lI (τ.2 1 _) = lI v; rw [nI_cl (by omega), hv]) hdg kk
theorem g_iast (X : mX p s m args c cc nL own Ts D kc) (Y : mY D A M s H locs) (hG : G pr kc e0 σ τ th o g M) (h : pr 12) {k : Nat} (hk : k ∈ mints) {j v : Nat} (hj : j < mlen k) (hdg : decode cc pc = .ok (.iastore, 1))
    (kk : ∀ (M1 : Mp) (H1 : Heap) (locs1 : List Loc), G pr kc e0 σ (up2 τ.1 k j v, τ.2) th o g M1 → mY D A M1 s H1 locs1 → W p l e R s m args below meth c H1 locs1 cells slots Q (F0 m (pc + 1) ls rest)) : W p l e R s m args below meth c H locs cells slots Q (F0 m pc ls (.int (nI v) :: .int (nI j) :: .ref (g.1 12 k) :: rest)) := by
  have hl := mlen_lt k
  exact m_iast X Y (hG.f12 h hk) (vp_in_nI hj hl) hdg (fun H1 locs1 Y1 => kk _ H1 locs1 (by rw [nI_cl (by omega)]; exact hG.setM h hk) Y1)
theorem g_zast (X : mX p s m args c cc nL own Ts D kc) (Y : mY D A M s H locs) (hG : G pr kc e0 σ τ th o g M) (h : pr 12) {j : Nat} (hj : j < 60) (hdg : decode cc pc = .ok (.bastore, 1))
    (kk : ∀ (M1 : Mp) (H1 : Heap) (locs1 : List Loc), G pr kc e0 σ (up2 τ.1 10 j 1, τ.2) th o g M1 → mY D A M1 s H1 locs1 → W p l e R s m args below meth c H1 locs1 cells slots Q (F0 m (pc + 1) ls rest)) : W p l e R s m args below meth c H locs cells slots Q (F0 m pc ls (.int (nI 1) :: .int (nI j) :: .ref (g.1 12 10) :: rest)) :=
  m_zast X Y (hG.f12z h) (vp_in_nI hj (by decide)) hdg (fun H1 locs1 Y1 => kk _ H1 locs1 (by rw [nI_cl (by omega), show vp_nar .boolean (nI 1) = nI 1 by decide]; exact hG.setZ h) Y1)
theorem g_alst (X : mX p s m args c cc nL own Ts D kc) (Y : mY D A M s H locs) (hG : G pr kc e0 σ τ th o g M) (h : pr 12) {j : Nat} (hj : j < 4) {x : Int64} {v : Int} (hx : x = lI v) (hdg : decode cc pc = .ok (.lastore, 1))
    (kk : ∀ (M1 : Mp) (H1 : Heap) (locs1 : List Loc), G pr kc e0 σ (τ.1, up2 τ.2 0 j v) th o g M1 → mY D A M1 s H1 locs1 → W p l e R s m args below meth c H1 locs1 cells slots Q (F0 m (pc + 1) ls rest)) : W p l e R s m args below meth c H locs cells slots Q (F0 m pc ls (.long x :: .int (nI j) :: .ref (g.1 12 22) :: rest)) := by
  subst hx
  exact m_last X Y (hG.f12a h) (vp_in_nI hj (by decide)) hdg (fun H1 locs1 Y1 => kk _ H1 locs1 (by rw [nI_cl (by omega)]; exact hG.setA h) Y1)
theorem g_tlst (X : mX p s m args c cc nL own Ts D kc) (Y : mY D A M s H locs) (hG : G pr kc e0 σ τ th o g M) (h : pr 12) {j : Nat} (hj : j < 4) {x : Int64} {v : Int} (hx : x = lI v) (hdg : decode cc pc = .ok (.lastore, 1))
    (kk : ∀ (M1 : Mp) (H1 : Heap) (locs1 : List Loc), G pr kc e0 σ (τ.1, up2 τ.2 1 j v) th o g M1 → mY D A M1 s H1 locs1 → W p l e R s m args below meth c H1 locs1 cells slots Q (F0 m (pc + 1) ls rest)) : W p l e R s m args below meth c H locs cells slots Q (F0 m pc ls (.long x :: .int (nI j) :: .ref (g.1 12 23) :: rest)) := by
  subst hx
  exact m_last X Y (hG.f12t h) (vp_in_nI hj (by decide)) hdg (fun H1 locs1 Y1 => kk _ H1 locs1 (by rw [nI_cl (by omega)]; exact hG.setT h) Y1)
end MRW2
def MC (pr : Nat → Prop) (kc : Nat → ClassId) (e0 : Nat × Nat) (σ : Sg) (o : Int64) (g : Gh) (an : An) : Int32 → Mp → Prop := fun r M1 => r = an.2.1 ∧ G pr kc e0 σ an.2.2 (nI an.1) o g M1
theorem MC_i {pr : Nat → Prop} {kc : Nat → ClassId} {e0 : Nat × Nat} {σ : Sg} {o : Int64} {g : Gh} {an : An} {r : Int32} {c : Nat} {τ' : Sg} {M1 : Mp} (h : an = (c, r, τ')) (hG : G pr kc e0 σ τ' (nI c) o g M1) : MC pr kc e0 σ o g an r M1 := by
  subst h; exact ⟨rfl, hG⟩
theorem isIn_vI {x : Int32} {n : Nat} (h : n < 2147483648) : (nI 0 ≤ x ∧ x ≤ nI n - nI 1) ↔ vI x n = true := by
  simp only [vI, Bool.and_eq_true, decide_eq_true_eq, Int32.le_iff_toInt_le, Int32.toInt_sub, nI_tI h, nI_tI (show 0 < 2147483648 by decide), nI_tI (show 1 < 2147483648 by decide)]
  rw [Int.bmod_eq_of_le (by omega) (by omega)]
  omega
theorem isIn_rI {x : Int32} {lo hi : Nat} (h1 : lo < 2147483648) (h2 : hi < 2147483648) : (nI lo ≤ x ∧ x ≤ nI hi) ↔ rI x lo hi = true := by
  simp only [rI, Bool.and_eq_true, decide_eq_true_eq, Int32.le_iff_toInt_le, nI_tI h1, nI_tI h2]
theorem isIn_vI2 {x : Int32} {n : Nat} (h : n + 1 < 2147483648) : (nI 0 ≤ x ∧ x ≤ nI n) ↔ vI x (n + 1) = true := by
  simp only [vI, Bool.and_eq_true, decide_eq_true_eq, Int32.le_iff_toInt_le, nI_tI (show n < 2147483648 by omega), nI_tI (show 0 < 2147483648 by decide)]
  omega
