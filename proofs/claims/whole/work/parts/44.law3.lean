theorem gc_adr (kc : Nat → ClassId) (e0 : Nat × Nat) (σ τ : Sg) (th : Int32) (o : Int64) {g g' : Gh} (h1 : ∀ t i, t ≤ 10 → g'.1 t i = g.1 t i) (h2 : g'.2 = g.2) : ∀ (t i : Nat), t ≤ 10 → gcell kc e0 σ τ th o g' t i = gcell kc e0 σ τ th o g t i
  | 0, _, _ => rfl
  | 1, i, _ => by simp only [gcell, h1 5 _ (by decide)]
  | 2, i, _ => by simp only [gcell, h1 0 _ (by decide)]
  | 3, i, _ => by simp only [gcell, h1 1 _ (by decide)]
  | 4, _, _ => rfl
  | 5, i, _ => by simp only [gcell, h1 2 _ (by decide), h1 6 _ (by decide)]
  | 6, i, _ => by simp only [gcell, h1 0 _ (by decide), h1 4 _ (by decide)]
  | 7, i, _ => by simp only [gcell, h1 8 _ (by decide), h1 9 _ (by decide)]
  | 8, i, _ => by
    have hr : rtag i ≤ 10 := by unfold rtag; (repeat' split) <;> decide
    simp only [gcell, h1 _ _ hr]
  | 9, i, _ => by simp only [gcell, lar, h2, h1 10 _ (by decide)]
  | 10, i, _ => by simp only [gcell, h2]
  | t + 11, _, h => absurd h (by omega)
/-- the world of the law's start: what the two constructors made, and the row of one long -/
theorem G.join {kc : Nat → ClassId} {e0 : Nat × Nat} {ad : Nat → Nat → Nat} {Mc M0 Mm Mf : Mp} {h11 ho : Nat} {c11 : va_E} {adm : Nat → Nat} (hc : G (fun t => t ≤ 10) kc e0 sg0 sg0 0 0 (ad, fun _ => 0, fun _ _ => none, fun _ => nI 0) Mc) (hn : Mc h11 = none) (e0m : M0 = mu Mc h11 c11) (hob : Mm h11 = some (.inr (9, mobj sg0 0 (fun _ k => adm k)))) (har : ∀ k ∈ marrs, Mm (adm k) = some (mcell0 kc k)) (hfr : ∀ k ∈ marrs, M0 (adm k) = none) (hinj : ∀ k ∈ marrs, ∀ j ∈ marrs, adm k = adm j → k = j) (hkp : KP M0 Mm h11) (hno : Mm ho = none) (ef : Mf = mu Mm ho (lrow (kc 1) 1 (fun _ => 0))) : ∃ g, G prL kc e0 sg0 sg0 0 0 g Mf ∧ g.1 7 0 = ad 7 0 ∧ g.1 11 0 = h11 ∧ g.1 13 0 = ho := by
  obtain ⟨gA, hgA⟩ : ∃ z : Nat → Nat → Nat, z = fun t i => if t = 11 then h11 else if t = 12 then adm i else if t = 13 then ho else ad t i := ⟨_, rfl⟩
  have a10 : ∀ t i, t ≤ 10 → gA t i = ad t i := fun t i h => by
    rw [hgA]; show (if t = 11 then h11 else if t = 12 then adm i else if t = 13 then ho else ad t i) = ad t i
    rw [if_neg (by omega), if_neg (by omega), if_neg (by omega)]
  have a11 : ∀ i, gA 11 i = h11 := fun i => by rw [hgA]; rfl
  have a12 : ∀ i, gA 12 i = adm i := fun i => by rw [hgA]; rfl
  have a13 : ∀ i, gA 13 i = ho := fun i => by rw [hgA]; rfl
  have m11 : M0 h11 = some c11 := by rw [e0m]; exact mu_self _ _ _
  have hcl : ∀ t i, inR (fun t => t ≤ 10) sg0 t i → ∃ e, Mc (ad t i) = some e ∧ M0 (ad t i) = some e ∧ Mm (ad t i) = some e ∧ Mf (ad t i) = some e ∧ ad t i ≠ h11 ∧ ad t i ≠ ho := by
    intro t i h
    obtain ⟨ee, h1⟩ : ∃ ee, Mc (ad t i) = some ee := ⟨_, hc.1 t i h⟩
    have n1 : ad t i ≠ h11 := ne_fresh h1 hn
    have h2 : M0 (ad t i) = some ee := by rw [e0m, mu_ne _ _ n1]; exact h1
    have h3 := hkp _ _ h2 n1
    have n2 : ad t i ≠ ho := ne_fresh h3 hno
    exact ⟨_, h1, h2, h3, by rw [ef, mu_ne _ _ n2]; exact h3, n1, n2⟩
  have K : ∀ t i, inR prL sg0 t i → (t ≤ 10 ∧ inR (fun t => t ≤ 10) sg0 t i ∧ gA t i = ad t i) ∨ (t = 11 ∧ i = 0 ∧ gA t i = h11) ∨ (t = 12 ∧ i ∈ marrs ∧ gA t i = adm i) ∨ (t = 13 ∧ i = 0 ∧ gA t i = ho) := by
    intro t i hr
    by_cases h10 : t ≤ 10
    · exact Or.inl ⟨h10, ⟨h10, hr.2⟩, a10 t i h10⟩
    · have hp : t ≤ 13 := hr.1
      rcases (show t = 11 ∨ t = 12 ∨ t = 13 by omega) with rfl | rfl | rfl
      · exact Or.inr (Or.inl ⟨rfl, hr.2, a11 i⟩)
      · exact Or.inr (Or.inr (Or.inl ⟨rfl, hr.2, a12 i⟩))
      · exact Or.inr (Or.inr (Or.inr ⟨rfl, hr.2, a13 i⟩))
  have n11o : h11 ≠ ho := ne_fresh hob hno
  have n12 : ∀ k ∈ marrs, adm k ≠ ho := fun k hk => ne_fresh (har k hk) hno
  have n112 : ∀ k ∈ marrs, h11 ≠ adm k := fun k hk => ne_fresh m11 (hfr k hk)
  have nc12 : ∀ t i, inR (fun t => t ≤ 10) sg0 t i → ∀ k ∈ marrs, ad t i ≠ adm k := fun t i h k hk => by
    obtain ⟨e, -, q2, -⟩ := hcl t i h
    exact ne_fresh q2 (hfr k hk)
  refine ⟨(gA, fun _ => 0, fun _ _ => none, fun _ => nI 0), ⟨fun t i hr => ?_, fun t i t' i' hr hr' he => ?_, fun i hi => ⟨by simp [cnt, sg0], fun hz => by simp [cnt, sg0] at hz⟩⟩, a10 7 0 (by decide), a11 0, a13 0⟩
  · show Mf (gA t i) = _
    rcases K t i hr with ⟨p1, p2, p3⟩ | ⟨rfl, rfl, p3⟩ | ⟨rfl, p2, p3⟩ | ⟨rfl, rfl, p3⟩
    · obtain ⟨e, q1, -, -, q4, -⟩ := hcl t i p2
      rw [p3, q4, ← q1]
      refine (hc.1 t i p2).trans ?_
      exact congrArg some (gc_adr kc e0 sg0 sg0 0 0 (g := (ad, fun _ => 0, fun _ _ => none, fun _ => nI 0)) (g' := (gA, fun _ => 0, fun _ _ => none, fun _ => nI 0)) a10 rfl t i p1).symm
    · rw [p3, ef, mu_ne _ _ n11o, hob]
      show some (Sum.inr (9, mobj sg0 0 (fun _ k => adm k))) = some (Sum.inr (9, mobj sg0 0 gA))
      simp only [mobj, a12]
    · rw [p3, ef, mu_ne _ _ (n12 i p2), har i p2, mcell0_g kc e0 sg0 0 _ p2]
    · rw [p3, ef, mu_self]
      show some (lrow (kc 1) 1 (fun _ => 0)) = some (lrow (kc 1) 1 (fun j => if j = 0 then (0 : Int64) else 0))
      have e9 : (fun j : Nat => if j = 0 then (0 : Int64) else 0) = fun _ => 0 := by funext j; split <;> rfl
      rw [e9]
  · have he : gA t i = gA t' i' := he
    rcases K t i hr with ⟨p1, p2, p3⟩ | ⟨rfl, rfl, p3⟩ | ⟨rfl, p2, p3⟩ | ⟨rfl, rfl, p3⟩ <;> rcases K t' i' hr' with ⟨r1, r2, r3⟩ | ⟨rfl, rfl, r3⟩ | ⟨rfl, r2, r3⟩ | ⟨rfl, rfl, r3⟩ <;> first | rw [p3, r3] at he | rw [p3] at he
    · exact hc.2.1 t i t' i' p2 r2 he
    · obtain ⟨e, -, -, -, -, q5, q6⟩ := hcl t i p2; exact absurd he q5
    · exact absurd he (nc12 t i p2 i' r2)
    · obtain ⟨e, -, -, -, -, q5, q6⟩ := hcl t i p2; exact absurd he q6
    · obtain ⟨e, -, -, -, -, q5, q6⟩ := hcl t' i' r2; exact absurd he.symm q5
    · exact ⟨rfl, rfl⟩
    · exact absurd he (n112 i' r2)
    · exact absurd he n11o
    · exact absurd he.symm (nc12 t' i' r2 i p2)
    · exact absurd he.symm (n112 i p2)
    · exact ⟨rfl, hinj i p2 i' r2 he⟩
    · exact absurd he (n12 i p2)
    · obtain ⟨e, -, -, -, -, q5, q6⟩ := hcl t' i' r2; exact absurd he.symm q6
    · exact absurd he.symm n11o
    · exact absurd he.symm (n12 i' r2)
    · exact ⟨rfl, rfl⟩
theorem law_le {i L : Nat} (hi : i ≤ 2048) (hL : L ≤ 2048) : (¬ Int32.ofNat L - nI 4 < nI i) ↔ i + 4 ≤ L := by
  have e : Int32.ofNat L = nI L := rfl
  rw [e, Int32.lt_iff_toInt_lt, Int32.toInt_sub, nI_tI (show L < 2147483648 by omega), nI_tI (show 4 < 2147483648 by decide), nI_tI (show i < 2147483648 by omega), Int.bmod_eq_of_le (by omega) (by omega)]
  omega
set_option maxHeartbeats 4000000 in
set_option maxRecDepth 100000 in
theorem law_step {p : Program} {l : Launch} (hlt : l.stackTraces = false) {e : Env} {s : State} {m : MethodId} {below : List Frame} {meth : Method} {c : Code} {D : va_G} {kc : Nat → ClassId} {A : Nat → Prop} {e0 : Nat × Nat} {b L : Nat} {xs : Nat → Int32} (X : mX p s m #[Value.ref b] c cL_law 8 RL wsL_law D kc) (hA : ∀ q, s.heap.size ≤ q → A q) (hAn : ∀ q, A q → s.heap.size ≤ q) (hcx : cx A e0 s) (hX : va_X b L xs s s.heap) (hbl : b < s.heap.size) (hbA : ¬ A b) (hL : L ≤ 2048) (hr : meth.sig.returnType = ret) (hlocks : meth.locks = false) {n : Nat} (h4 : 4 * n ≤ L) {σ : Sg} {th : Int32} {o : Int64} {g : Gh} {M : Mp} {H : Heap} {locs : List Loc} {ls : Array Slot} {CE SL : Nat} (hCE : CE ≤ 200 + 12 * n) (hSL : SL ≤ 3000 + 320 * n) (hG : G prL kc e0 σ σ th o g M) (hwf : WF n σ) (Y : mY D A M s H locs) (hl : lv_has ls 8 (lawL b n g)) (nx : 4 * n + 4 ≤ L → ∀ (σ1 : Sg) (th1 : Int32) (o1 : Int64) (g1 : Gh) (M1 : Mp) (H1 : Heap) (locs1 : List Loc) (ls1 : Array Slot) (CE1 SL1 : Nat), CE1 ≤ 200 + 12 * (n + 1) → SL1 ≤ 3000 + 320 * (n + 1) → G prL kc e0 σ1 σ1 th1 o1 g1 M1 → WF (n + 1) σ1 → mY D A M1 s H1 locs1 → lv_has ls1 8 (lawL b (n + 1) g1) → W p l e room_1 s m #[Value.ref b] below meth c H1 locs1 CE1 SL1 (lw_Z below #[Value.ref b] s) (F0 m 23 ls1 [])) : W p l e room_1 s m #[Value.ref b] below meth c H locs CE SL (lw_Z below #[Value.ref b] s) (F0 m 23 ls []) := by
  have hx := X.1.1
  have hb := X.1.2.1
  have hn : 4 * n ≤ 2048 := by omega
  replace hl : lv_has ls 8 [(4, .int (nI (4 * n))), (3, .ref (g.1 13 0)), (2, .ref (g.1 11 0)), (1, .ref (g.1 7 0)), (0, .ref b)] := hl
  refine lv_iload hx hb dL_law_23 (lv_at hl 0 rfl) ?_
  refine lv_aload_n hx hb dL_law_25 rfl (lv_at hl 4 rfl) ?_
  refine va_slen hx hb hX hbl hbA Y.2 dL_law_26 ?_
  refine n_iconst hx hb 4 dL_law_27 (by decide) ?_
  refine lv_isub hx hb dL_law_28 ?_
  refine lv_icmp_gt (tgt := 1384) hx hb dL_law_29 (by decide) (fun hc => ?_) (fun hc => ?_)
  · refine lv_iconst (v := 1) hx hb dL_law_1384 (by decide) ?_
    refine va_forget (fun q hq => hAn _ (Y.2.2.2 q hq)) ?_
    refine W.widen (k := 601024) (n := 7293034) (by omega) (by omega) ?_
    exact lw_ret hx hb hr hlocks dL_law_1385
  · have hn4 : 4 * n + 4 ≤ L := (law_le hn hL).mp hc
    have hn5 : n + 1 ≤ 600 := by omega
    have hCE2 : CE + 12 ≤ room_1.cells := by show CE + 12 ≤ 601024; omega
    have hSL2 : SL + 320 ≤ room_1.slots := by show SL + 320 ≤ 7293034; omega
    have tail : ∀ (σ1 : Sg) (th1 : Int32) (o1 : Int64) (g1 : Gh) (M1 : Mp) (H1 : Heap) (locs1 : List Loc) (ls1 : Array Slot) (CE1 SL1 : Nat), CE1 ≤ CE + 12 → SL1 ≤ SL + 320 → G prL kc e0 σ1 σ1 th1 o1 g1 M1 → WF (n + 1) σ1 → mY D A M1 s H1 locs1 → lv_has ls1 8 (lawL b n g1) → W p l e room_1 s m #[Value.ref b] below meth c H1 locs1 CE1 SL1 (lw_Z below #[Value.ref b] s) (F0 m 1378 ls1 []) := by
      intro σ1 th1 o1 g1 M1 H1 locs1 ls1 CE1 SL1 hc1 hs1 hG1 hwf1 Y1 hl1
      replace hl1 : lv_has ls1 8 [(4, .int (nI (4 * n))), (3, .ref (g1.1 13 0)), (2, .ref (g1.1 11 0)), (1, .ref (g1.1 7 0)), (0, .ref b)] := hl1
      refine lv_iinc (v := nI (4 * n + 4)) (lv' := [(4, .int (nI (4 * n + 4))), (3, .ref (g1.1 13 0)), (2, .ref (g1.1 11 0)), (1, .ref (g1.1 7 0)), (0, .ref b)]) hx hb dL_law_1378 hl1 (k := 0) rfl (nI_add _ 4) (by decide) rfl (fun ls2 hl2 => ?_)
      refine lv_goto (tgt := 23) hx hb dL_law_1381 (by decide) ?_
      exact nx hn4 σ1 th1 o1 g1 M1 H1 locs1 ls2 CE1 SL1 (by omega) (by omega) hG1 hwf1 Y1 (by
        have e : 4 * (n + 1) = 4 * n + 4 := by omega
        show lv_has ls2 8 [(4, .int (nI (4 * (n + 1)))), (3, .ref (g1.1 13 0)), (2, .ref (g1.1 11 0)), (1, .ref (g1.1 7 0)), (0, .ref b)]
        rw [e]; exact hl2)
    refine lv_aload_n hx hb dL_law_32 rfl (lv_at hl 4 rfl) ?_
    refine lv_iload hx hb dL_law_33 (lv_at hl 0 rfl) ?_
    refine m_sc X Y hX hbl hbA hL (i := n) (k := 0) (by omega) dL_law_35 ?_
    refine n_bipush hx hb 31 dL_law_36 (by decide) ?_
    refine lv_iand hx hb dL_law_38 ?_
    generalize sc xs n 0 &&& nI 31 = v
    cases hv : vI v 19 with
    | false =>
      refine lv_tableOut (tgt := 1378) hx hb dL_law_39 (by have zq := vI_out hv; omega) (by decide) ?_
      exact tail σ th o g M H locs ls CE SL (by omega) (by omega) hG (hwf.mono (by omega) hn5) Y hl
    | true =>
      obtain ⟨j, hj, hj2, rfl⟩ := vI_t hv
      rcases (show j = 0 ∨ j = 1 ∨ j = 2 ∨ j = 3 ∨ j = 4 ∨ j = 5 ∨ j = 6 ∨ j = 7 ∨ j = 8 ∨ j = 9 ∨ j = 10 ∨ j = 11 ∨ j = 12 ∨ j = 13 ∨ j = 14 ∨ j = 15 ∨ j = 16 ∨ j = 17 ∨ j = 18 by omega) with rfl | rfl | rfl | rfl | rfl | rfl | rfl | rfl | rfl | rfl | rfl | rfl | rfl | rfl | rfl | rfl | rfl | rfl | rfl
      · refine lv_tableIn (tgt := 128) hx hb dL_law_39 (by decide) (by decide) (off := 89) rfl (by decide) ?_
        exact law_shop hlt X hA hcx hX hbl hbA hL hn4 hn5 hCE2 hSL2 hG hwf Y hl (fun σ1 th1 o1 g1 M1 H1 locs1 ls1 hG1 hwf1 Y1 hl1 => tail σ1 th1 o1 g1 M1 H1 locs1 ls1 _ _ (Nat.le_refl _) (Nat.le_refl _) hG1 hwf1 Y1 hl1)
      · refine lv_tableIn (tgt := 196) hx hb dL_law_39 (by decide) (by decide) (off := 157) rfl (by decide) ?_
        exact law_kind hlt X hA hcx hX hbl hbA hL hn4 hn5 hCE2 hSL2 hG hwf Y hl (fun σ1 th1 o1 g1 M1 H1 locs1 ls1 hG1 hwf1 Y1 hl1 => tail σ1 th1 o1 g1 M1 H1 locs1 ls1 _ _ (Nat.le_refl _) (Nat.le_refl _) hG1 hwf1 Y1 hl1)
      · refine lv_tableIn (tgt := 276) hx hb dL_law_39 (by decide) (by decide) (off := 237) rfl (by decide) ?_
        exact law_authorise hlt X hA hcx hX hbl hbA hL hn4 hn5 hCE2 hSL2 hG hwf Y hl (fun σ1 th1 o1 g1 M1 H1 locs1 ls1 hG1 hwf1 Y1 hl1 => tail σ1 th1 o1 g1 M1 H1 locs1 ls1 _ _ (Nat.le_refl _) (Nat.le_refl _) hG1 hwf1 Y1 hl1)
      · refine lv_tableIn (tgt := 356) hx hb dL_law_39 (by decide) (by decide) (off := 317) rfl (by decide) ?_
        exact law_capture hlt X hA hcx hX hbl hbA hL hn4 hn5 hCE2 hSL2 hG hwf Y hl (fun σ1 th1 o1 g1 M1 H1 locs1 ls1 hG1 hwf1 Y1 hl1 => tail σ1 th1 o1 g1 M1 H1 locs1 ls1 _ _ (Nat.le_refl _) (Nat.le_refl _) hG1 hwf1 Y1 hl1)
      · refine lv_tableIn (tgt := 424) hx hb dL_law_39 (by decide) (by decide) (off := 385) rfl (by decide) ?_
        exact law_cancel hlt X hA hcx hX hbl hbA hL hn4 hn5 hCE2 hSL2 hG hwf Y hl (fun σ1 th1 o1 g1 M1 H1 locs1 ls1 hG1 hwf1 Y1 hl1 => tail σ1 th1 o1 g1 M1 H1 locs1 ls1 _ _ (Nat.le_refl _) (Nat.le_refl _) hG1 hwf1 Y1 hl1)
      · refine lv_tableIn (tgt := 480) hx hb dL_law_39 (by decide) (by decide) (off := 441) rfl (by decide) ?_
        exact law_refund hlt X hA hcx hX hbl hbA hL hn4 hn5 hCE2 hSL2 hG hwf Y hl (fun σ1 th1 o1 g1 M1 H1 locs1 ls1 hG1 hwf1 Y1 hl1 => tail σ1 th1 o1 g1 M1 H1 locs1 ls1 _ _ (Nat.le_refl _) (Nat.le_refl _) hG1 hwf1 Y1 hl1)
      · refine lv_tableIn (tgt := 548) hx hb dL_law_39 (by decide) (by decide) (off := 509) rfl (by decide) ?_
        exact law_dispute hlt X hA hcx hX hbl hbA hL hn4 hn5 hCE2 hSL2 hG hwf Y hl (fun σ1 th1 o1 g1 M1 H1 locs1 ls1 hG1 hwf1 Y1 hl1 => tail σ1 th1 o1 g1 M1 H1 locs1 ls1 _ _ (Nat.le_refl _) (Nat.le_refl _) hG1 hwf1 Y1 hl1)
      · refine lv_tableIn (tgt := 616) hx hb dL_law_39 (by decide) (by decide) (off := 577) rfl (by decide) ?_
        exact law_answer hlt X hA hcx hX hbl hbA hL hn4 hn5 hCE2 hSL2 hG hwf Y hl (fun σ1 th1 o1 g1 M1 H1 locs1 ls1 hG1 hwf1 Y1 hl1 => tail σ1 th1 o1 g1 M1 H1 locs1 ls1 _ _ (Nat.le_refl _) (Nat.le_refl _) hG1 hwf1 Y1 hl1)
      · refine lv_tableIn (tgt := 672) hx hb dL_law_39 (by decide) (by decide) (off := 633) rfl (by decide) ?_
        exact law_press hlt X hA hcx hX hbl hbA hL hn4 hn5 hCE2 hSL2 hG hwf Y hl (fun σ1 th1 o1 g1 M1 H1 locs1 ls1 hG1 hwf1 Y1 hl1 => tail σ1 th1 o1 g1 M1 H1 locs1 ls1 _ _ (Nat.le_refl _) (Nat.le_refl _) hG1 hwf1 Y1 hl1)
      · refine lv_tableIn (tgt := 728) hx hb dL_law_39 (by decide) (by decide) (off := 689) rfl (by decide) ?_
        exact law_rule hlt X hA hcx hX hbl hbA hL hn4 hn5 hCE2 hSL2 hG hwf Y hl (fun σ1 th1 o1 g1 M1 H1 locs1 ls1 hG1 hwf1 Y1 hl1 => tail σ1 th1 o1 g1 M1 H1 locs1 ls1 _ _ (Nat.le_refl _) (Nat.le_refl _) hG1 hwf1 Y1 hl1)
      · refine lv_tableIn (tgt := 812) hx hb dL_law_39 (by decide) (by decide) (off := 773) rfl (by decide) ?_
        exact law_pass hlt X hA hcx hX hbl hbA hL hn4 hn5 hCE2 hSL2 hG hwf Y hl (fun σ1 th1 o1 g1 M1 H1 locs1 ls1 hG1 hwf1 Y1 hl1 => tail σ1 th1 o1 g1 M1 H1 locs1 ls1 _ _ (Nat.le_refl _) (Nat.le_refl _) hG1 hwf1 Y1 hl1)
      · refine lv_tableIn (tgt := 868) hx hb dL_law_39 (by decide) (by decide) (off := 829) rfl (by decide) ?_
        exact law_paymentOf hlt X hA hcx hX hbl hbA hL hn4 hn5 hCE2 hSL2 hG hwf Y hl (fun σ1 th1 o1 g1 M1 H1 locs1 ls1 hG1 hwf1 Y1 hl1 => tail σ1 th1 o1 g1 M1 H1 locs1 ls1 _ _ (Nat.le_refl _) (Nat.le_refl _) hG1 hwf1 Y1 hl1)
      · refine lv_tableIn (tgt := 936) hx hb dL_law_39 (by decide) (by decide) (off := 897) rfl (by decide) ?_
        exact law_captureOf hlt X hA hcx hX hbl hbA hL hn4 hn5 hCE2 hSL2 hG hwf Y hl (fun σ1 th1 o1 g1 M1 H1 locs1 ls1 hG1 hwf1 Y1 hl1 => tail σ1 th1 o1 g1 M1 H1 locs1 ls1 _ _ (Nat.le_refl _) (Nat.le_refl _) hG1 hwf1 Y1 hl1)
      · refine lv_tableIn (tgt := 1004) hx hb dL_law_39 (by decide) (by decide) (off := 965) rfl (by decide) ?_
        exact law_chargebackOf hlt X hA hcx hX hbl hbA hL hn4 hn5 hCE2 hSL2 hG hwf Y hl (fun σ1 th1 o1 g1 M1 H1 locs1 ls1 hG1 hwf1 Y1 hl1 => tail σ1 th1 o1 g1 M1 H1 locs1 ls1 _ _ (Nat.le_refl _) (Nat.le_refl _) hG1 hwf1 Y1 hl1)
      · refine lv_tableIn (tgt := 1072) hx hb dL_law_39 (by decide) (by decide) (off := 1033) rfl (by decide) ?_
        exact law_limit hlt X hA hcx hX hbl hbA hL hn4 hn5 hCE2 hSL2 hG hwf Y hl (fun σ1 th1 o1 g1 M1 H1 locs1 ls1 hG1 hwf1 Y1 hl1 => tail σ1 th1 o1 g1 M1 H1 locs1 ls1 _ _ (Nat.le_refl _) (Nat.le_refl _) hG1 hwf1 Y1 hl1)
      · refine lv_tableIn (tgt := 1128) hx hb dL_law_39 (by decide) (by decide) (off := 1089) rfl (by decide) ?_
        exact law_net hlt X hA hcx hX hbl hbA hL hn4 hn5 hCE2 hSL2 hG hwf Y hl (fun σ1 th1 o1 g1 M1 H1 locs1 ls1 hG1 hwf1 Y1 hl1 => tail σ1 th1 o1 g1 M1 H1 locs1 ls1 _ _ (Nat.le_refl _) (Nat.le_refl _) hG1 hwf1 Y1 hl1)
      · refine lv_tableIn (tgt := 1211) hx hb dL_law_39 (by decide) (by decide) (off := 1172) rfl (by decide) ?_
        exact law_netAnew hlt X hA hcx hX hbl hbA hL hn4 hn5 hCE2 hSL2 hG hwf Y hl (fun σ1 th1 o1 g1 M1 H1 locs1 ls1 hG1 hwf1 Y1 hl1 => tail σ1 th1 o1 g1 M1 H1 locs1 ls1 _ _ (Nat.le_refl _) (Nat.le_refl _) hG1 hwf1 Y1 hl1)
      · refine lv_tableIn (tgt := 1266) hx hb dL_law_39 (by decide) (by decide) (off := 1227) rfl (by decide) ?_
        exact law_due hlt X hA hcx hX hbl hbA hL hn4 hn5 hCE2 hSL2 hG hwf Y hl (fun σ1 th1 o1 g1 M1 H1 locs1 ls1 hG1 hwf1 Y1 hl1 => tail σ1 th1 o1 g1 M1 H1 locs1 ls1 _ _ (Nat.le_refl _) (Nat.le_refl _) hG1 hwf1 Y1 hl1)
      · refine lv_tableIn (tgt := 1322) hx hb dL_law_39 (by decide) (by decide) (off := 1283) rfl (by decide) ?_
        exact law_count hlt X hA hcx hX hbl hbA hL hn4 hn5 hCE2 hSL2 hG hwf Y hl (fun σ1 th1 o1 g1 M1 H1 locs1 ls1 hG1 hwf1 Y1 hl1 => tail σ1 th1 o1 g1 M1 H1 locs1 ls1 _ _ (Nat.le_refl _) (Nat.le_refl _) hG1 hwf1 Y1 hl1)
theorem law_loop {p : Program} {l : Launch} (hlt : l.stackTraces = false) {e : Env} {s : State} {m : MethodId} {below : List Frame} {meth : Method} {c : Code} {D : va_G} {kc : Nat → ClassId} {A : Nat → Prop} {e0 : Nat × Nat} {b L : Nat} {xs : Nat → Int32} (X : mX p s m #[Value.ref b] c cL_law 8 RL wsL_law D kc) (hA : ∀ q, s.heap.size ≤ q → A q) (hAn : ∀ q, A q → s.heap.size ≤ q) (hcx : cx A e0 s) (hX : va_X b L xs s s.heap) (hbl : b < s.heap.size) (hbA : ¬ A b) (hL : L ≤ 2048) (hr : meth.sig.returnType = ret) (hlocks : meth.locks = false) : ∀ (fu n : Nat), 512 - n = fu → 4 * n ≤ L → ∀ (σ : Sg) (th : Int32) (o : Int64) (g : Gh) (M : Mp) (H : Heap) (locs : List Loc) (ls : Array Slot) (CE SL : Nat), CE ≤ 200 + 12 * n → SL ≤ 3000 + 320 * n → G prL kc e0 σ σ th o g M → WF n σ → mY D A M s H locs → lv_has ls 8 (lawL b n g) → W p l e room_1 s m #[Value.ref b] below meth c H locs CE SL (lw_Z below #[Value.ref b] s) (F0 m 23 ls []) := by
  intro fu
  induction fu with
  | zero =>
    intro n hf h4 σ th o g M H locs ls CE SL hCE hSL hG hwf Y hl
    exact law_step hlt X hA hAn hcx hX hbl hbA hL hr hlocks h4 hCE hSL hG hwf Y hl (fun hz => by exfalso; omega)
  | succ fu ih =>
    intro n hf h4 σ th o g M H locs ls CE SL hCE hSL hG hwf Y hl
    exact law_step hlt X hA hAn hcx hX hbl hbA hL hr hlocks h4 hCE hSL hG hwf Y hl (fun hz => ih (n + 1) (by omega) (by omega))
