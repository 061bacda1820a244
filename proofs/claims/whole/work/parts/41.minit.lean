def nd_1 (a : Nat) : List Nat → Prop
  | [] => True
  | b :: l => a ≠ b ∧ nd_1 a l
theorem nd_n : ([] : List Nat).Nodup := List.nodup_nil
theorem nd_m {a : Nat} : ∀ {l : List Nat}, nd_1 a l → a ∉ l
  | [], _ => by simp
  | b :: l, h => fun z => (List.mem_cons.mp z).elim (fun e => h.1 e) (nd_m h.2)
theorem nd_c {a : Nat} {l : List Nat} (h : nd_1 a l) (h2 : l.Nodup) : (a :: l).Nodup := List.nodup_cons.mpr ⟨nd_m h, h2⟩
theorem nd_gm : ∀ {l : List Nat} {j : Nat}, j < l.length → l.getD j 0 ∈ l
  | [], j, h => absurd h (Nat.not_lt_zero j)
  | a :: l, 0, _ => List.mem_cons_self
  | a :: l, j + 1, h => List.mem_cons_of_mem _ (nd_gm (Nat.lt_of_succ_lt_succ h))
theorem nd_get : ∀ {l : List Nat}, l.Nodup → ∀ i j, i < l.length → j < l.length → l.getD i 0 = l.getD j 0 → i = j
  | [], _, i, _, hi, _, _ => absurd hi (Nat.not_lt_zero _)
  | a :: l, hn, 0, 0, _, _, _ => rfl
  | a :: l, hn, 0, j + 1, _, hj, h => by
    have hj2 : j < l.length := Nat.lt_of_succ_lt_succ hj
    have e : a = l.getD j 0 := h
    exact absurd (by have z := nd_gm hj2; first | (rw [← e] at z; exact z) | (rw [e] at z; exact z)) (List.nodup_cons.mp hn).1
  | a :: l, hn, i + 1, 0, hi, _, h => by
    have hj2 : i < l.length := Nat.lt_of_succ_lt_succ hi
    have e : l.getD i 0 = a := h
    exact absurd (by have z := nd_gm hj2; first | (rw [← e] at z; exact z) | (rw [e] at z; exact z)) (List.nodup_cons.mp hn).1
  | a :: l, hn, i + 1, j + 1, hi, hj, h => congrArg (· + 1) (nd_get (List.nodup_cons.mp hn).2 i j (Nat.lt_of_succ_lt_succ hi) (Nat.lt_of_succ_lt_succ hj) h)
def midx (k : Nat) : Nat := marrs.idxOf k
theorem midx_lt : ∀ k ∈ marrs, midx k < 19 := by decide
theorem midx_inj : ∀ k ∈ marrs, ∀ j ∈ marrs, midx k = midx j → k = j := by decide
/-- a row of the model at the start -/
def mcell0 (kc : Nat → ClassId) (k : Nat) : va_E := if k = 10 then irow (kc 2) 60 (fun _ => 0) else if k = 22 ∨ k = 23 then lrow (kc 1) 4 (fun _ => 0) else if k = 2 then irow (kc 0) 3 (updI (updI (updI (fun _ => 0) 0 (nI 10)) 1 (nI 10)) 2 (nI 10)) else if k = 3 then irow (kc 0) 3 (updI (updI (updI (fun _ => 0) 0 (nI 500)) 1 (nI 500)) 2 (nI 500)) else irow (kc 0) (mlen k) (fun _ => 0)
theorem upd3 (v j : Nat) : updI (updI (updI (fun _ => 0) 0 (nI v)) 1 (nI v)) 2 (nI v) j = nI (if j < 3 then v else 0) := by
  unfold updI upd
  by_cases h2 : j = 2
  · subst h2; rfl
  · by_cases h1 : j = 1
    · subst h1; rfl
    · by_cases h0 : j = 0
      · subst h0; rfl
      · rw [if_neg h2, if_neg h1, if_neg h0, if_neg (by omega)]; rfl
theorem mcell0_g (kc : Nat → ClassId) (e0 : Nat × Nat) (σ : Sg) (o : Int64) (g : Gh) {k : Nat} (hk : k ∈ marrs) : gcell kc e0 σ sg0 0 o g 12 k = mcell0 kc k := by
  simp only [marrs, List.mem_cons, List.not_mem_nil, or_false] at hk
  rcases hk with rfl | rfl | rfl | rfl | rfl | rfl | rfl | rfl | rfl | rfl | rfl | rfl | rfl | rfl | rfl | rfl | rfl | rfl | rfl
  · rfl
  · show irow (kc 0) 3 (fun j => nI (if j < 3 then 10 else 0)) = irow (kc 0) 3 _
    congr 4; funext j; exact (upd3 10 j).symm
  · show irow (kc 0) 3 (fun j => nI (if j < 3 then 500 else 0)) = irow (kc 0) 3 _
    congr 4; funext j; exact (upd3 500 j).symm
  all_goals rfl
theorem kwX8_init_1 : Cond.methodLink RX8 1 objectInit ∈ wsX8_init := List.mem_of_getElem? (i := 1) rfl
theorem kwX8_init_2 : Cond.instanceMethod objectInit ∈ wsX8_init := List.mem_of_getElem? (i := 2) rfl
theorem kwX8_init_3 : Cond.code objectInit ⟨#[0xb1]⟩ 1 none ∈ wsX8_init := List.mem_of_getElem? (i := 3) rfl
theorem kwX8_init_4 : Cond.arrayClass .int ∈ wsX8_init := List.mem_of_getElem? (i := 4) rfl
theorem kwX8_init_5 : Cond.fieldLink RX8 7 "CardPortModel" "kindOf" "[I" ∈ wsX8_init := List.mem_of_getElem? (i := 5) rfl
theorem htX8_init_wsX801 : ∀ w ∈ wsX80, w ∈ wsX8_init := fun _ h => List.mem_cons_of_mem _ (List.mem_append_right _ h)
theorem kwX8_init_6 : Cond.fieldLink RX8 13 "CardPortModel" "rate" "[I" ∈ wsX8_init := List.mem_of_getElem? (i := 6) rfl
theorem kwX8_init_7 : Cond.fieldLink RX8 16 "CardPortModel" "cap" "[I" ∈ wsX8_init := List.mem_of_getElem? (i := 7) rfl
theorem kwX8_init_8 : Cond.fieldLink RX8 19 "CardPortModel" "card" "[I" ∈ wsX8_init := List.mem_of_getElem? (i := 8) rfl
theorem kwX8_init_9 : Cond.fieldLink RX8 22 "CardPortModel" "shop" "[I" ∈ wsX8_init := List.mem_of_getElem? (i := 9) rfl
theorem kwX8_init_10 : Cond.fieldLink RX8 25 "CardPortModel" "amount" "[I" ∈ wsX8_init := List.mem_of_getElem? (i := 10) rfl
theorem kwX8_init_11 : Cond.fieldLink RX8 28 "CardPortModel" "captured" "[I" ∈ wsX8_init := List.mem_of_getElem? (i := 11) rfl
theorem kwX8_init_12 : Cond.fieldLink RX8 31 "CardPortModel" "last" "[I" ∈ wsX8_init := List.mem_of_getElem? (i := 12) rfl
theorem kwX8_init_13 : Cond.arrayClass .boolean ∈ wsX8_init := List.mem_of_getElem? (i := 13) rfl
theorem kwX8_init_14 : Cond.fieldLink RX8 34 "CardPortModel" "isVoid" "[Z" ∈ wsX8_init := List.mem_of_getElem? (i := 14) rfl
theorem kwX8_init_15 : Cond.fieldLink RX8 38 "CardPortModel" "payment" "[I" ∈ wsX8_init := List.mem_of_getElem? (i := 15) rfl
theorem kwX8_init_16 : Cond.fieldLink RX8 41 "CardPortModel" "size" "[I" ∈ wsX8_init := List.mem_of_getElem? (i := 16) rfl
theorem kwX8_init_17 : Cond.fieldLink RX8 44 "CardPortModel" "fee" "[I" ∈ wsX8_init := List.mem_of_getElem? (i := 17) rfl
theorem kwX8_init_18 : Cond.fieldLink RX8 47 "CardPortModel" "refunded" "[I" ∈ wsX8_init := List.mem_of_getElem? (i := 18) rfl
theorem kwX8_init_19 : Cond.fieldLink RX8 50 "CardPortModel" "state" "[I" ∈ wsX8_init := List.mem_of_getElem? (i := 19) rfl
theorem kwX8_init_20 : Cond.fieldLink RX8 53 "CardPortModel" "capture" "[I" ∈ wsX8_init := List.mem_of_getElem? (i := 20) rfl
theorem kwX8_init_21 : Cond.fieldLink RX8 56 "CardPortModel" "disputed" "[I" ∈ wsX8_init := List.mem_of_getElem? (i := 21) rfl
theorem kwX8_init_22 : Cond.fieldLink RX8 59 "CardPortModel" "until" "[I" ∈ wsX8_init := List.mem_of_getElem? (i := 22) rfl
theorem kwX8_init_23 : Cond.arrayClass .long ∈ wsX8_init := List.mem_of_getElem? (i := 23) rfl
theorem kwX8_init_24 : Cond.fieldLink RX8 62 "CardPortModel" "all" "[J" ∈ wsX8_init := List.mem_of_getElem? (i := 24) rfl
theorem kwX8_init_25 : Cond.fieldLink RX8 66 "CardPortModel" "today" "[J" ∈ wsX8_init := List.mem_of_getElem? (i := 25) rfl
set_option maxHeartbeats 4000000 in
set_option maxRecDepth 100000 in
theorem c_X8_init (l : Launch) (D : va_G) (kc : Nat → ClassId) (A : Nat → Prop) (e0 : Nat × Nat) (M : Mp) (h0 : Nat) (hm : M h0 = some (.inr (9, [.int 0, .null, .null, .null, .int 0, .null, .null, .null, .null, .null, .null, .int 0, .null, .null, .null, .null, .int 0, .null, .null, .null, .null, .int 0, .null, .null, .int 0]))) : Met l yX8_init wsX8_init ({ frames := 6, cells := 30, slots := 1400, locals := 90 }) (mPre D kc A e0 M [.ref h0]) (va_Qv (fun M1 => ∃ ad : Nat → Nat, M1 h0 = some (.inr (9, mobj sg0 0 (fun _ k => ad k))) ∧ (∀ k ∈ marrs, M1 (ad k) = some (mcell0 kc k)) ∧ (∀ k ∈ marrs, M (ad k) = none) ∧ (∀ k ∈ marrs, ∀ j ∈ marrs, ad k = ad j → k = j) ∧ KP M M1 h0) (mB D A) A) 30 1400 A := by
  refine Met.ofW (cc := cX8_init) (maxL := 2) (ret := none) (by decide) rfl ?_
  intro p e s m args below meth c s₁ B hml hv
  obtain ⟨rfl, hw, hK, hA, hcx⟩ := hv
  have X : mX p s m _ c cX8_init 2 RX8 wsX8_init D kc := ⟨⟨B.exec, B.bytes, hml, findClass_of_methodNamed B.named, atoms_spec (ws := wsX8_init) B.pre⟩, hK⟩
  have hx := B.exec
  have hb := B.bytes
  have hr := B.returns
  have hlocks := B.notSynchronized
  have hin : meth.name = "<init>" := (name_of_methodNamed B.named B.method).1
  have Y : mY D A M s s.heap [] := ⟨hw, va_S.rf⟩
  have hl := lv_entry ([.ref h0]) (n := 2) (Nat.le_of_ble_eq_true rfl)
  rw [lg_entry_eq]
  generalize (lg_sl ([.ref h0]) ++ List.replicate (2 - (lg_sl ([.ref h0])).length) Slot.unset).toArray = ls at hl ⊢
  have hl : lv_has ls 2 [(0, .ref h0)] := hl
  refine lv_aload_n hx hb dX8_init_0 rfl (lv_at hl 0 rfl) ?_
  refine W.objInit hx hb X.1.2.2.2.1 (X.1.2.2.2.2 _ kwX8_init_1) (X.1.2.2.2.2 _ kwX8_init_2) (X.1.2.2.2.2 _ kwX8_init_3) rfl (by rw [hml]; exact hl.1) rfl dX8_init_1 (Nat.le_of_ble_eq_true rfl) (Nat.le_of_ble_eq_true rfl) ?_
  refine W.eq (g2 := F0 m 4 ls []) rfl ?_
  refine lv_aload_n hx hb dX8_init_4 rfl (lv_at hl 0 rfl) ?_
  refine n_bipush hx hb 8 dX8_init_5 (by decide) ?_
  refine m_newa (atype := .int) X Y hA 0 rfl rfl kwX8_init_4 8 (8, .inl (fun _ => 0)) (fun _ => rfl) (by decide) (by decide) (by decide) (by decide) (by decide) dX8_init_7 (fun q1 H fq1 Y => ?_)
  obtain ⟨M2, eM2⟩ : ∃ zz9 : Mp, zz9 = mu M q1 (irow (kc 0) 8 (fun _ => 0)) := ⟨_, rfl⟩
  replace Y : mY D A M2 s H [] := by rw [eM2]; exact Y
  have hh3 : M2 h0 = some (.inr (9, [.int 0, .null, .null, .null, .int 0, .null, .null, .null, .null, .null, .null, .int 0, .null, .null, .null, .null, .int 0, .null, .null, .null, .null, .int 0, .null, .null, .int 0])) := by rw [eM2, mu_ne _ _ (ne_fresh hm fq1)]; exact hm
  have hh4 : M2 q1 = some (irow (kc 0) 8 (fun _ => 0)) := by rw [eM2]; exact mu_self _ _ _
  refine m_putF (ref := "CardPortModel") (C := RX8) (T := TX8) (N := 25) (ci := 9) X Y htX8_init_wsX801 tyX8 tyX8_ok nmX8 hin hh3 rfl 1 (by decide) kwX8_init_5 rfl rfl rfl (v := .ref q1) rfl rfl (Nat.le_of_ble_eq_true rfl) dX8_init_9 (fun H locs Y => ?_)
  obtain ⟨M5, eM5⟩ : ∃ zz9 : Mp, zz9 = mu M2 h0 (.inr (9, [.int 0, .ref q1, .null, .null, .int 0, .null, .null, .null, .null, .null, .null, .int 0, .null, .null, .null, .null, .int 0, .null, .null, .null, .null, .int 0, .null, .null, .int 0])) := ⟨_, rfl⟩
  replace Y : mY D A M5 s H locs := by rw [eM5]; exact Y
  have hh6 : M5 q1 = some (irow (kc 0) 8 (fun _ => 0)) := by rw [eM5, mu_ne _ _ (Ne.symm (ne_fresh hm fq1))]; exact hh4
  have hh7 : M5 h0 = some (.inr (9, [.int 0, .ref q1, .null, .null, .int 0, .null, .null, .null, .null, .null, .null, .int 0, .null, .null, .null, .null, .int 0, .null, .null, .null, .null, .int 0, .null, .null, .int 0])) := by rw [eM5]; exact mu_self _ _ _
  refine lv_aload_n hx hb dX8_init_12 rfl (lv_at hl 0 rfl) ?_
  refine n_iconst hx hb 3 dX8_init_13 (by decide) ?_
  refine m_newa (atype := .int) X Y hA 0 rfl rfl kwX8_init_4 3 (3, .inl (fun _ => 0)) (fun _ => rfl) (by decide) (by decide) (by decide) (by decide) (by decide) dX8_init_14 (fun q8 H fq8 Y => ?_)
  obtain ⟨M9, eM9⟩ : ∃ zz9 : Mp, zz9 = mu M5 q8 (irow (kc 0) 3 (fun _ => 0)) := ⟨_, rfl⟩
  replace Y : mY D A M9 s H locs := by rw [eM9]; exact Y
  have hh10 : M9 q1 = some (irow (kc 0) 8 (fun _ => 0)) := by rw [eM9, mu_ne _ _ (ne_fresh hh6 fq8)]; exact hh6
  have hh11 : M9 h0 = some (.inr (9, [.int 0, .ref q1, .null, .null, .int 0, .null, .null, .null, .null, .null, .null, .int 0, .null, .null, .null, .null, .int 0, .null, .null, .null, .null, .int 0, .null, .null, .int 0])) := by rw [eM9, mu_ne _ _ (ne_fresh hh7 fq8)]; exact hh7
  have hh12 : M9 q8 = some (irow (kc 0) 3 (fun _ => 0)) := by rw [eM9]; exact mu_self _ _ _
  refine m_putF (ref := "CardPortModel") (C := RX8) (T := TX8) (N := 25) (ci := 9) X Y htX8_init_wsX801 tyX8 tyX8_ok nmX8 hin hh11 rfl 2 (by decide) kwX8_init_6 rfl rfl rfl (v := .ref q8) rfl rfl (Nat.le_of_ble_eq_true rfl) dX8_init_16 (fun H locs Y => ?_)
  obtain ⟨M13, eM13⟩ : ∃ zz9 : Mp, zz9 = mu M9 h0 (.inr (9, [.int 0, .ref q1, .ref q8, .null, .int 0, .null, .null, .null, .null, .null, .null, .int 0, .null, .null, .null, .null, .int 0, .null, .null, .null, .null, .int 0, .null, .null, .int 0])) := ⟨_, rfl⟩
  replace Y : mY D A M13 s H locs := by rw [eM13]; exact Y
  have hh14 : M13 q1 = some (irow (kc 0) 8 (fun _ => 0)) := by rw [eM13, mu_ne _ _ (Ne.symm (ne_fresh hm fq1))]; exact hh10
  have hh15 : M13 q8 = some (irow (kc 0) 3 (fun _ => 0)) := by rw [eM13, mu_ne _ _ (Ne.symm (ne_fresh hh7 fq8))]; exact hh12
  have hh16 : M13 h0 = some (.inr (9, [.int 0, .ref q1, .ref q8, .null, .int 0, .null, .null, .null, .null, .null, .null, .int 0, .null, .null, .null, .null, .int 0, .null, .null, .null, .null, .int 0, .null, .null, .int 0])) := by rw [eM13]; exact mu_self _ _ _
  refine lv_aload_n hx hb dX8_init_19 rfl (lv_at hl 0 rfl) ?_
  refine n_iconst hx hb 3 dX8_init_20 (by decide) ?_
  refine m_newa (atype := .int) X Y hA 0 rfl rfl kwX8_init_4 3 (3, .inl (fun _ => 0)) (fun _ => rfl) (by decide) (by decide) (by decide) (by decide) (by decide) dX8_init_21 (fun q17 H fq17 Y => ?_)
  obtain ⟨M18, eM18⟩ : ∃ zz9 : Mp, zz9 = mu M13 q17 (irow (kc 0) 3 (fun _ => 0)) := ⟨_, rfl⟩
  replace Y : mY D A M18 s H locs := by rw [eM18]; exact Y
  have hh19 : M18 q1 = some (irow (kc 0) 8 (fun _ => 0)) := by rw [eM18, mu_ne _ _ (ne_fresh hh14 fq17)]; exact hh14
  have hh20 : M18 q8 = some (irow (kc 0) 3 (fun _ => 0)) := by rw [eM18, mu_ne _ _ (ne_fresh hh15 fq17)]; exact hh15
  have hh21 : M18 h0 = some (.inr (9, [.int 0, .ref q1, .ref q8, .null, .int 0, .null, .null, .null, .null, .null, .null, .int 0, .null, .null, .null, .null, .int 0, .null, .null, .null, .null, .int 0, .null, .null, .int 0])) := by rw [eM18, mu_ne _ _ (ne_fresh hh16 fq17)]; exact hh16
  have hh22 : M18 q17 = some (irow (kc 0) 3 (fun _ => 0)) := by rw [eM18]; exact mu_self _ _ _
  refine m_putF (ref := "CardPortModel") (C := RX8) (T := TX8) (N := 25) (ci := 9) X Y htX8_init_wsX801 tyX8 tyX8_ok nmX8 hin hh21 rfl 3 (by decide) kwX8_init_7 rfl rfl rfl (v := .ref q17) rfl rfl (Nat.le_of_ble_eq_true rfl) dX8_init_23 (fun H locs Y => ?_)
  obtain ⟨M23, eM23⟩ : ∃ zz9 : Mp, zz9 = mu M18 h0 (.inr (9, [.int 0, .ref q1, .ref q8, .ref q17, .int 0, .null, .null, .null, .null, .null, .null, .int 0, .null, .null, .null, .null, .int 0, .null, .null, .null, .null, .int 0, .null, .null, .int 0])) := ⟨_, rfl⟩
  replace Y : mY D A M23 s H locs := by rw [eM23]; exact Y
  have hh24 : M23 q1 = some (irow (kc 0) 8 (fun _ => 0)) := by rw [eM23, mu_ne _ _ (Ne.symm (ne_fresh hm fq1))]; exact hh19
  have hh25 : M23 q8 = some (irow (kc 0) 3 (fun _ => 0)) := by rw [eM23, mu_ne _ _ (Ne.symm (ne_fresh hh7 fq8))]; exact hh20
  have hh26 : M23 q17 = some (irow (kc 0) 3 (fun _ => 0)) := by rw [eM23, mu_ne _ _ (Ne.symm (ne_fresh hh16 fq17))]; exact hh22
  have hh27 : M23 h0 = some (.inr (9, [.int 0, .ref q1, .ref q8, .ref q17, .int 0, .null, .null, .null, .null, .null, .null, .int 0, .null, .null, .null, .null, .int 0, .null, .null, .null, .null, .int 0, .null, .null, .int 0])) := by rw [eM23]; exact mu_self _ _ _
  refine lv_aload_n hx hb dX8_init_26 rfl (lv_at hl 0 rfl) ?_
  refine n_bipush hx hb 60 dX8_init_27 (by decide) ?_
  refine m_newa (atype := .int) X Y hA 0 rfl rfl kwX8_init_4 60 (60, .inl (fun _ => 0)) (fun _ => rfl) (by decide) (by decide) (by decide) (by decide) (by decide) dX8_init_29 (fun q28 H fq28 Y => ?_)
  obtain ⟨M29, eM29⟩ : ∃ zz9 : Mp, zz9 = mu M23 q28 (irow (kc 0) 60 (fun _ => 0)) := ⟨_, rfl⟩
  replace Y : mY D A M29 s H locs := by rw [eM29]; exact Y
  have hh30 : M29 q1 = some (irow (kc 0) 8 (fun _ => 0)) := by rw [eM29, mu_ne _ _ (ne_fresh hh24 fq28)]; exact hh24
  have hh31 : M29 q8 = some (irow (kc 0) 3 (fun _ => 0)) := by rw [eM29, mu_ne _ _ (ne_fresh hh25 fq28)]; exact hh25
  have hh32 : M29 q17 = some (irow (kc 0) 3 (fun _ => 0)) := by rw [eM29, mu_ne _ _ (ne_fresh hh26 fq28)]; exact hh26
  have hh33 : M29 h0 = some (.inr (9, [.int 0, .ref q1, .ref q8, .ref q17, .int 0, .null, .null, .null, .null, .null, .null, .int 0, .null, .null, .null, .null, .int 0, .null, .null, .null, .null, .int 0, .null, .null, .int 0])) := by rw [eM29, mu_ne _ _ (ne_fresh hh27 fq28)]; exact hh27
  have hh34 : M29 q28 = some (irow (kc 0) 60 (fun _ => 0)) := by rw [eM29]; exact mu_self _ _ _
  refine m_putF (ref := "CardPortModel") (C := RX8) (T := TX8) (N := 25) (ci := 9) X Y htX8_init_wsX801 tyX8 tyX8_ok nmX8 hin hh33 rfl 5 (by decide) kwX8_init_8 rfl rfl rfl (v := .ref q28) rfl rfl (Nat.le_of_ble_eq_true rfl) dX8_init_31 (fun H locs Y => ?_)
  obtain ⟨M35, eM35⟩ : ∃ zz9 : Mp, zz9 = mu M29 h0 (.inr (9, [.int 0, .ref q1, .ref q8, .ref q17, .int 0, .ref q28, .null, .null, .null, .null, .null, .int 0, .null, .null, .null, .null, .int 0, .null, .null, .null, .null, .int 0, .null, .null, .int 0])) := ⟨_, rfl⟩
  replace Y : mY D A M35 s H locs := by rw [eM35]; exact Y
  have hh36 : M35 q1 = some (irow (kc 0) 8 (fun _ => 0)) := by rw [eM35, mu_ne _ _ (Ne.symm (ne_fresh hm fq1))]; exact hh30
  have hh37 : M35 q8 = some (irow (kc 0) 3 (fun _ => 0)) := by rw [eM35, mu_ne _ _ (Ne.symm (ne_fresh hh7 fq8))]; exact hh31
  have hh38 : M35 q17 = some (irow (kc 0) 3 (fun _ => 0)) := by rw [eM35, mu_ne _ _ (Ne.symm (ne_fresh hh16 fq17))]; exact hh32
  have hh39 : M35 q28 = some (irow (kc 0) 60 (fun _ => 0)) := by rw [eM35, mu_ne _ _ (Ne.symm (ne_fresh hh27 fq28))]; exact hh34
  have hh40 : M35 h0 = some (.inr (9, [.int 0, .ref q1, .ref q8, .ref q17, .int 0, .ref q28, .null, .null, .null, .null, .null, .int 0, .null, .null, .null, .null, .int 0, .null, .null, .null, .null, .int 0, .null, .null, .int 0])) := by rw [eM35]; exact mu_self _ _ _
  refine lv_aload_n hx hb dX8_init_34 rfl (lv_at hl 0 rfl) ?_
  refine n_bipush hx hb 60 dX8_init_35 (by decide) ?_
  refine m_newa (atype := .int) X Y hA 0 rfl rfl kwX8_init_4 60 (60, .inl (fun _ => 0)) (fun _ => rfl) (by decide) (by decide) (by decide) (by decide) (by decide) dX8_init_37 (fun q41 H fq41 Y => ?_)
  obtain ⟨M42, eM42⟩ : ∃ zz9 : Mp, zz9 = mu M35 q41 (irow (kc 0) 60 (fun _ => 0)) := ⟨_, rfl⟩
  replace Y : mY D A M42 s H locs := by rw [eM42]; exact Y
  have hh43 : M42 q1 = some (irow (kc 0) 8 (fun _ => 0)) := by rw [eM42, mu_ne _ _ (ne_fresh hh36 fq41)]; exact hh36
  have hh44 : M42 q8 = some (irow (kc 0) 3 (fun _ => 0)) := by rw [eM42, mu_ne _ _ (ne_fresh hh37 fq41)]; exact hh37
  have hh45 : M42 q17 = some (irow (kc 0) 3 (fun _ => 0)) := by rw [eM42, mu_ne _ _ (ne_fresh hh38 fq41)]; exact hh38
  have hh46 : M42 q28 = some (irow (kc 0) 60 (fun _ => 0)) := by rw [eM42, mu_ne _ _ (ne_fresh hh39 fq41)]; exact hh39
  have hh47 : M42 h0 = some (.inr (9, [.int 0, .ref q1, .ref q8, .ref q17, .int 0, .ref q28, .null, .null, .null, .null, .null, .int 0, .null, .null, .null, .null, .int 0, .null, .null, .null, .null, .int 0, .null, .null, .int 0])) := by rw [eM42, mu_ne _ _ (ne_fresh hh40 fq41)]; exact hh40
  have hh48 : M42 q41 = some (irow (kc 0) 60 (fun _ => 0)) := by rw [eM42]; exact mu_self _ _ _
  refine m_putF (ref := "CardPortModel") (C := RX8) (T := TX8) (N := 25) (ci := 9) X Y htX8_init_wsX801 tyX8 tyX8_ok nmX8 hin hh47 rfl 6 (by decide) kwX8_init_9 rfl rfl rfl (v := .ref q41) rfl rfl (Nat.le_of_ble_eq_true rfl) dX8_init_39 (fun H locs Y => ?_)
  obtain ⟨M49, eM49⟩ : ∃ zz9 : Mp, zz9 = mu M42 h0 (.inr (9, [.int 0, .ref q1, .ref q8, .ref q17, .int 0, .ref q28, .ref q41, .null, .null, .null, .null, .int 0, .null, .null, .null, .null, .int 0, .null, .null, .null, .null, .int 0, .null, .null, .int 0])) := ⟨_, rfl⟩
  replace Y : mY D A M49 s H locs := by rw [eM49]; exact Y
  have hh50 : M49 q1 = some (irow (kc 0) 8 (fun _ => 0)) := by rw [eM49, mu_ne _ _ (Ne.symm (ne_fresh hm fq1))]; exact hh43
  have hh51 : M49 q8 = some (irow (kc 0) 3 (fun _ => 0)) := by rw [eM49, mu_ne _ _ (Ne.symm (ne_fresh hh7 fq8))]; exact hh44
  have hh52 : M49 q17 = some (irow (kc 0) 3 (fun _ => 0)) := by rw [eM49, mu_ne _ _ (Ne.symm (ne_fresh hh16 fq17))]; exact hh45
  have hh53 : M49 q28 = some (irow (kc 0) 60 (fun _ => 0)) := by rw [eM49, mu_ne _ _ (Ne.symm (ne_fresh hh27 fq28))]; exact hh46
  have hh54 : M49 q41 = some (irow (kc 0) 60 (fun _ => 0)) := by rw [eM49, mu_ne _ _ (Ne.symm (ne_fresh hh40 fq41))]; exact hh48
  have hh55 : M49 h0 = some (.inr (9, [.int 0, .ref q1, .ref q8, .ref q17, .int 0, .ref q28, .ref q41, .null, .null, .null, .null, .int 0, .null, .null, .null, .null, .int 0, .null, .null, .null, .null, .int 0, .null, .null, .int 0])) := by rw [eM49]; exact mu_self _ _ _
  refine lv_aload_n hx hb dX8_init_42 rfl (lv_at hl 0 rfl) ?_
  refine n_bipush hx hb 60 dX8_init_43 (by decide) ?_
  refine m_newa (atype := .int) X Y hA 0 rfl rfl kwX8_init_4 60 (60, .inl (fun _ => 0)) (fun _ => rfl) (by decide) (by decide) (by decide) (by decide) (by decide) dX8_init_45 (fun q56 H fq56 Y => ?_)
  obtain ⟨M57, eM57⟩ : ∃ zz9 : Mp, zz9 = mu M49 q56 (irow (kc 0) 60 (fun _ => 0)) := ⟨_, rfl⟩
  replace Y : mY D A M57 s H locs := by rw [eM57]; exact Y
  have hh58 : M57 q1 = some (irow (kc 0) 8 (fun _ => 0)) := by rw [eM57, mu_ne _ _ (ne_fresh hh50 fq56)]; exact hh50
  have hh59 : M57 q8 = some (irow (kc 0) 3 (fun _ => 0)) := by rw [eM57, mu_ne _ _ (ne_fresh hh51 fq56)]; exact hh51
  have hh60 : M57 q17 = some (irow (kc 0) 3 (fun _ => 0)) := by rw [eM57, mu_ne _ _ (ne_fresh hh52 fq56)]; exact hh52
  have hh61 : M57 q28 = some (irow (kc 0) 60 (fun _ => 0)) := by rw [eM57, mu_ne _ _ (ne_fresh hh53 fq56)]; exact hh53
  have hh62 : M57 q41 = some (irow (kc 0) 60 (fun _ => 0)) := by rw [eM57, mu_ne _ _ (ne_fresh hh54 fq56)]; exact hh54
  have hh63 : M57 h0 = some (.inr (9, [.int 0, .ref q1, .ref q8, .ref q17, .int 0, .ref q28, .ref q41, .null, .null, .null, .null, .int 0, .null, .null, .null, .null, .int 0, .null, .null, .null, .null, .int 0, .null, .null, .int 0])) := by rw [eM57, mu_ne _ _ (ne_fresh hh55 fq56)]; exact hh55
  have hh64 : M57 q56 = some (irow (kc 0) 60 (fun _ => 0)) := by rw [eM57]; exact mu_self _ _ _
  refine m_putF (ref := "CardPortModel") (C := RX8) (T := TX8) (N := 25) (ci := 9) X Y htX8_init_wsX801 tyX8 tyX8_ok nmX8 hin hh63 rfl 7 (by decide) kwX8_init_10 rfl rfl rfl (v := .ref q56) rfl rfl (Nat.le_of_ble_eq_true rfl) dX8_init_47 (fun H locs Y => ?_)
  obtain ⟨M65, eM65⟩ : ∃ zz9 : Mp, zz9 = mu M57 h0 (.inr (9, [.int 0, .ref q1, .ref q8, .ref q17, .int 0, .ref q28, .ref q41, .ref q56, .null, .null, .null, .int 0, .null, .null, .null, .null, .int 0, .null, .null, .null, .null, .int 0, .null, .null, .int 0])) := ⟨_, rfl⟩
  replace Y : mY D A M65 s H locs := by rw [eM65]; exact Y
  have hh66 : M65 q1 = some (irow (kc 0) 8 (fun _ => 0)) := by rw [eM65, mu_ne _ _ (Ne.symm (ne_fresh hm fq1))]; exact hh58
  have hh67 : M65 q8 = some (irow (kc 0) 3 (fun _ => 0)) := by rw [eM65, mu_ne _ _ (Ne.symm (ne_fresh hh7 fq8))]; exact hh59
  have hh68 : M65 q17 = some (irow (kc 0) 3 (fun _ => 0)) := by rw [eM65, mu_ne _ _ (Ne.symm (ne_fresh hh16 fq17))]; exact hh60
  have hh69 : M65 q28 = some (irow (kc 0) 60 (fun _ => 0)) := by rw [eM65, mu_ne _ _ (Ne.symm (ne_fresh hh27 fq28))]; exact hh61
  have hh70 : M65 q41 = some (irow (kc 0) 60 (fun _ => 0)) := by rw [eM65, mu_ne _ _ (Ne.symm (ne_fresh hh40 fq41))]; exact hh62
  have hh71 : M65 q56 = some (irow (kc 0) 60 (fun _ => 0)) := by rw [eM65, mu_ne _ _ (Ne.symm (ne_fresh hh55 fq56))]; exact hh64
  have hh72 : M65 h0 = some (.inr (9, [.int 0, .ref q1, .ref q8, .ref q17, .int 0, .ref q28, .ref q41, .ref q56, .null, .null, .null, .int 0, .null, .null, .null, .null, .int 0, .null, .null, .null, .null, .int 0, .null, .null, .int 0])) := by rw [eM65]; exact mu_self _ _ _
  refine lv_aload_n hx hb dX8_init_50 rfl (lv_at hl 0 rfl) ?_
  refine n_bipush hx hb 60 dX8_init_51 (by decide) ?_
  refine m_newa (atype := .int) X Y hA 0 rfl rfl kwX8_init_4 60 (60, .inl (fun _ => 0)) (fun _ => rfl) (by decide) (by decide) (by decide) (by decide) (by decide) dX8_init_53 (fun q73 H fq73 Y => ?_)
  obtain ⟨M74, eM74⟩ : ∃ zz9 : Mp, zz9 = mu M65 q73 (irow (kc 0) 60 (fun _ => 0)) := ⟨_, rfl⟩
  replace Y : mY D A M74 s H locs := by rw [eM74]; exact Y
  have hh75 : M74 q1 = some (irow (kc 0) 8 (fun _ => 0)) := by rw [eM74, mu_ne _ _ (ne_fresh hh66 fq73)]; exact hh66
  have hh76 : M74 q8 = some (irow (kc 0) 3 (fun _ => 0)) := by rw [eM74, mu_ne _ _ (ne_fresh hh67 fq73)]; exact hh67
  have hh77 : M74 q17 = some (irow (kc 0) 3 (fun _ => 0)) := by rw [eM74, mu_ne _ _ (ne_fresh hh68 fq73)]; exact hh68
  have hh78 : M74 q28 = some (irow (kc 0) 60 (fun _ => 0)) := by rw [eM74, mu_ne _ _ (ne_fresh hh69 fq73)]; exact hh69
  have hh79 : M74 q41 = some (irow (kc 0) 60 (fun _ => 0)) := by rw [eM74, mu_ne _ _ (ne_fresh hh70 fq73)]; exact hh70
  have hh80 : M74 q56 = some (irow (kc 0) 60 (fun _ => 0)) := by rw [eM74, mu_ne _ _ (ne_fresh hh71 fq73)]; exact hh71
  have hh81 : M74 h0 = some (.inr (9, [.int 0, .ref q1, .ref q8, .ref q17, .int 0, .ref q28, .ref q41, .ref q56, .null, .null, .null, .int 0, .null, .null, .null, .null, .int 0, .null, .null, .null, .null, .int 0, .null, .null, .int 0])) := by rw [eM74, mu_ne _ _ (ne_fresh hh72 fq73)]; exact hh72
  have hh82 : M74 q73 = some (irow (kc 0) 60 (fun _ => 0)) := by rw [eM74]; exact mu_self _ _ _
  refine m_putF (ref := "CardPortModel") (C := RX8) (T := TX8) (N := 25) (ci := 9) X Y htX8_init_wsX801 tyX8 tyX8_ok nmX8 hin hh81 rfl 8 (by decide) kwX8_init_11 rfl rfl rfl (v := .ref q73) rfl rfl (Nat.le_of_ble_eq_true rfl) dX8_init_55 (fun H locs Y => ?_)
  obtain ⟨M83, eM83⟩ : ∃ zz9 : Mp, zz9 = mu M74 h0 (.inr (9, [.int 0, .ref q1, .ref q8, .ref q17, .int 0, .ref q28, .ref q41, .ref q56, .ref q73, .null, .null, .int 0, .null, .null, .null, .null, .int 0, .null, .null, .null, .null, .int 0, .null, .null, .int 0])) := ⟨_, rfl⟩
  replace Y : mY D A M83 s H locs := by rw [eM83]; exact Y
  have hh84 : M83 q1 = some (irow (kc 0) 8 (fun _ => 0)) := by rw [eM83, mu_ne _ _ (Ne.symm (ne_fresh hm fq1))]; exact hh75
  have hh85 : M83 q8 = some (irow (kc 0) 3 (fun _ => 0)) := by rw [eM83, mu_ne _ _ (Ne.symm (ne_fresh hh7 fq8))]; exact hh76
  have hh86 : M83 q17 = some (irow (kc 0) 3 (fun _ => 0)) := by rw [eM83, mu_ne _ _ (Ne.symm (ne_fresh hh16 fq17))]; exact hh77
  have hh87 : M83 q28 = some (irow (kc 0) 60 (fun _ => 0)) := by rw [eM83, mu_ne _ _ (Ne.symm (ne_fresh hh27 fq28))]; exact hh78
  have hh88 : M83 q41 = some (irow (kc 0) 60 (fun _ => 0)) := by rw [eM83, mu_ne _ _ (Ne.symm (ne_fresh hh40 fq41))]; exact hh79
  have hh89 : M83 q56 = some (irow (kc 0) 60 (fun _ => 0)) := by rw [eM83, mu_ne _ _ (Ne.symm (ne_fresh hh55 fq56))]; exact hh80
  have hh90 : M83 q73 = some (irow (kc 0) 60 (fun _ => 0)) := by rw [eM83, mu_ne _ _ (Ne.symm (ne_fresh hh72 fq73))]; exact hh82
  have hh91 : M83 h0 = some (.inr (9, [.int 0, .ref q1, .ref q8, .ref q17, .int 0, .ref q28, .ref q41, .ref q56, .ref q73, .null, .null, .int 0, .null, .null, .null, .null, .int 0, .null, .null, .null, .null, .int 0, .null, .null, .int 0])) := by rw [eM83]; exact mu_self _ _ _
  refine lv_aload_n hx hb dX8_init_58 rfl (lv_at hl 0 rfl) ?_
  refine n_bipush hx hb 60 dX8_init_59 (by decide) ?_
  refine m_newa (atype := .int) X Y hA 0 rfl rfl kwX8_init_4 60 (60, .inl (fun _ => 0)) (fun _ => rfl) (by decide) (by decide) (by decide) (by decide) (by decide) dX8_init_61 (fun q92 H fq92 Y => ?_)
  obtain ⟨M93, eM93⟩ : ∃ zz9 : Mp, zz9 = mu M83 q92 (irow (kc 0) 60 (fun _ => 0)) := ⟨_, rfl⟩
  replace Y : mY D A M93 s H locs := by rw [eM93]; exact Y
  have hh94 : M93 q1 = some (irow (kc 0) 8 (fun _ => 0)) := by rw [eM93, mu_ne _ _ (ne_fresh hh84 fq92)]; exact hh84
  have hh95 : M93 q8 = some (irow (kc 0) 3 (fun _ => 0)) := by rw [eM93, mu_ne _ _ (ne_fresh hh85 fq92)]; exact hh85
  have hh96 : M93 q17 = some (irow (kc 0) 3 (fun _ => 0)) := by rw [eM93, mu_ne _ _ (ne_fresh hh86 fq92)]; exact hh86
  have hh97 : M93 q28 = some (irow (kc 0) 60 (fun _ => 0)) := by rw [eM93, mu_ne _ _ (ne_fresh hh87 fq92)]; exact hh87
  have hh98 : M93 q41 = some (irow (kc 0) 60 (fun _ => 0)) := by rw [eM93, mu_ne _ _ (ne_fresh hh88 fq92)]; exact hh88
  have hh99 : M93 q56 = some (irow (kc 0) 60 (fun _ => 0)) := by rw [eM93, mu_ne _ _ (ne_fresh hh89 fq92)]; exact hh89
  have hh100 : M93 q73 = some (irow (kc 0) 60 (fun _ => 0)) := by rw [eM93, mu_ne _ _ (ne_fresh hh90 fq92)]; exact hh90
  have hh101 : M93 h0 = some (.inr (9, [.int 0, .ref q1, .ref q8, .ref q17, .int 0, .ref q28, .ref q41, .ref q56, .ref q73, .null, .null, .int 0, .null, .null, .null, .null, .int 0, .null, .null, .null, .null, .int 0, .null, .null, .int 0])) := by rw [eM93, mu_ne _ _ (ne_fresh hh91 fq92)]; exact hh91
  have hh102 : M93 q92 = some (irow (kc 0) 60 (fun _ => 0)) := by rw [eM93]; exact mu_self _ _ _
  refine m_putF (ref := "CardPortModel") (C := RX8) (T := TX8) (N := 25) (ci := 9) X Y htX8_init_wsX801 tyX8 tyX8_ok nmX8 hin hh101 rfl 9 (by decide) kwX8_init_12 rfl rfl rfl (v := .ref q92) rfl rfl (Nat.le_of_ble_eq_true rfl) dX8_init_63 (fun H locs Y => ?_)
  obtain ⟨M103, eM103⟩ : ∃ zz9 : Mp, zz9 = mu M93 h0 (.inr (9, [.int 0, .ref q1, .ref q8, .ref q17, .int 0, .ref q28, .ref q41, .ref q56, .ref q73, .ref q92, .null, .int 0, .null, .null, .null, .null, .int 0, .null, .null, .null, .null, .int 0, .null, .null, .int 0])) := ⟨_, rfl⟩
  replace Y : mY D A M103 s H locs := by rw [eM103]; exact Y
  have hh104 : M103 q1 = some (irow (kc 0) 8 (fun _ => 0)) := by rw [eM103, mu_ne _ _ (Ne.symm (ne_fresh hm fq1))]; exact hh94
  have hh105 : M103 q8 = some (irow (kc 0) 3 (fun _ => 0)) := by rw [eM103, mu_ne _ _ (Ne.symm (ne_fresh hh7 fq8))]; exact hh95
  have hh106 : M103 q17 = some (irow (kc 0) 3 (fun _ => 0)) := by rw [eM103, mu_ne _ _ (Ne.symm (ne_fresh hh16 fq17))]; exact hh96
  have hh107 : M103 q28 = some (irow (kc 0) 60 (fun _ => 0)) := by rw [eM103, mu_ne _ _ (Ne.symm (ne_fresh hh27 fq28))]; exact hh97
  have hh108 : M103 q41 = some (irow (kc 0) 60 (fun _ => 0)) := by rw [eM103, mu_ne _ _ (Ne.symm (ne_fresh hh40 fq41))]; exact hh98
  have hh109 : M103 q56 = some (irow (kc 0) 60 (fun _ => 0)) := by rw [eM103, mu_ne _ _ (Ne.symm (ne_fresh hh55 fq56))]; exact hh99
  have hh110 : M103 q73 = some (irow (kc 0) 60 (fun _ => 0)) := by rw [eM103, mu_ne _ _ (Ne.symm (ne_fresh hh72 fq73))]; exact hh100
  have hh111 : M103 q92 = some (irow (kc 0) 60 (fun _ => 0)) := by rw [eM103, mu_ne _ _ (Ne.symm (ne_fresh hh91 fq92))]; exact hh102
  have hh112 : M103 h0 = some (.inr (9, [.int 0, .ref q1, .ref q8, .ref q17, .int 0, .ref q28, .ref q41, .ref q56, .ref q73, .ref q92, .null, .int 0, .null, .null, .null, .null, .int 0, .null, .null, .null, .null, .int 0, .null, .null, .int 0])) := by rw [eM103]; exact mu_self _ _ _
  refine lv_aload_n hx hb dX8_init_66 rfl (lv_at hl 0 rfl) ?_
  refine n_bipush hx hb 60 dX8_init_67 (by decide) ?_
  refine m_newa (atype := .boolean) X Y hA 2 rfl rfl kwX8_init_13 60 (60, .inl (fun _ => 0)) (fun _ => rfl) (by decide) (by decide) (by decide) (by decide) (by decide) dX8_init_69 (fun q113 H fq113 Y => ?_)
  obtain ⟨M114, eM114⟩ : ∃ zz9 : Mp, zz9 = mu M103 q113 (irow (kc 2) 60 (fun _ => 0)) := ⟨_, rfl⟩
  replace Y : mY D A M114 s H locs := by rw [eM114]; exact Y
  have hh115 : M114 q1 = some (irow (kc 0) 8 (fun _ => 0)) := by rw [eM114, mu_ne _ _ (ne_fresh hh104 fq113)]; exact hh104
  have hh116 : M114 q8 = some (irow (kc 0) 3 (fun _ => 0)) := by rw [eM114, mu_ne _ _ (ne_fresh hh105 fq113)]; exact hh105
  have hh117 : M114 q17 = some (irow (kc 0) 3 (fun _ => 0)) := by rw [eM114, mu_ne _ _ (ne_fresh hh106 fq113)]; exact hh106
  have hh118 : M114 q28 = some (irow (kc 0) 60 (fun _ => 0)) := by rw [eM114, mu_ne _ _ (ne_fresh hh107 fq113)]; exact hh107
  have hh119 : M114 q41 = some (irow (kc 0) 60 (fun _ => 0)) := by rw [eM114, mu_ne _ _ (ne_fresh hh108 fq113)]; exact hh108
  have hh120 : M114 q56 = some (irow (kc 0) 60 (fun _ => 0)) := by rw [eM114, mu_ne _ _ (ne_fresh hh109 fq113)]; exact hh109
  have hh121 : M114 q73 = some (irow (kc 0) 60 (fun _ => 0)) := by rw [eM114, mu_ne _ _ (ne_fresh hh110 fq113)]; exact hh110
  have hh122 : M114 q92 = some (irow (kc 0) 60 (fun _ => 0)) := by rw [eM114, mu_ne _ _ (ne_fresh hh111 fq113)]; exact hh111
  have hh123 : M114 h0 = some (.inr (9, [.int 0, .ref q1, .ref q8, .ref q17, .int 0, .ref q28, .ref q41, .ref q56, .ref q73, .ref q92, .null, .int 0, .null, .null, .null, .null, .int 0, .null, .null, .null, .null, .int 0, .null, .null, .int 0])) := by rw [eM114, mu_ne _ _ (ne_fresh hh112 fq113)]; exact hh112
  have hh124 : M114 q113 = some (irow (kc 2) 60 (fun _ => 0)) := by rw [eM114]; exact mu_self _ _ _
  refine m_putF (ref := "CardPortModel") (C := RX8) (T := TX8) (N := 25) (ci := 9) X Y htX8_init_wsX801 tyX8 tyX8_ok nmX8 hin hh123 rfl 10 (by decide) kwX8_init_14 rfl rfl rfl (v := .ref q113) rfl rfl (Nat.le_of_ble_eq_true rfl) dX8_init_71 (fun H locs Y => ?_)
  obtain ⟨M125, eM125⟩ : ∃ zz9 : Mp, zz9 = mu M114 h0 (.inr (9, [.int 0, .ref q1, .ref q8, .ref q17, .int 0, .ref q28, .ref q41, .ref q56, .ref q73, .ref q92, .ref q113, .int 0, .null, .null, .null, .null, .int 0, .null, .null, .null, .null, .int 0, .null, .null, .int 0])) := ⟨_, rfl⟩
  replace Y : mY D A M125 s H locs := by rw [eM125]; exact Y
  have hh126 : M125 q1 = some (irow (kc 0) 8 (fun _ => 0)) := by rw [eM125, mu_ne _ _ (Ne.symm (ne_fresh hm fq1))]; exact hh115
  have hh127 : M125 q8 = some (irow (kc 0) 3 (fun _ => 0)) := by rw [eM125, mu_ne _ _ (Ne.symm (ne_fresh hh7 fq8))]; exact hh116
  have hh128 : M125 q17 = some (irow (kc 0) 3 (fun _ => 0)) := by rw [eM125, mu_ne _ _ (Ne.symm (ne_fresh hh16 fq17))]; exact hh117
  have hh129 : M125 q28 = some (irow (kc 0) 60 (fun _ => 0)) := by rw [eM125, mu_ne _ _ (Ne.symm (ne_fresh hh27 fq28))]; exact hh118
  have hh130 : M125 q41 = some (irow (kc 0) 60 (fun _ => 0)) := by rw [eM125, mu_ne _ _ (Ne.symm (ne_fresh hh40 fq41))]; exact hh119
  have hh131 : M125 q56 = some (irow (kc 0) 60 (fun _ => 0)) := by rw [eM125, mu_ne _ _ (Ne.symm (ne_fresh hh55 fq56))]; exact hh120
  have hh132 : M125 q73 = some (irow (kc 0) 60 (fun _ => 0)) := by rw [eM125, mu_ne _ _ (Ne.symm (ne_fresh hh72 fq73))]; exact hh121
  have hh133 : M125 q92 = some (irow (kc 0) 60 (fun _ => 0)) := by rw [eM125, mu_ne _ _ (Ne.symm (ne_fresh hh91 fq92))]; exact hh122
  have hh134 : M125 q113 = some (irow (kc 2) 60 (fun _ => 0)) := by rw [eM125, mu_ne _ _ (Ne.symm (ne_fresh hh112 fq113))]; exact hh124
  have hh135 : M125 h0 = some (.inr (9, [.int 0, .ref q1, .ref q8, .ref q17, .int 0, .ref q28, .ref q41, .ref q56, .ref q73, .ref q92, .ref q113, .int 0, .null, .null, .null, .null, .int 0, .null, .null, .null, .null, .int 0, .null, .null, .int 0])) := by rw [eM125]; exact mu_self _ _ _
  refine lv_aload_n hx hb dX8_init_74 rfl (lv_at hl 0 rfl) ?_
  refine n_bipush hx hb 100 dX8_init_75 (by decide) ?_
  refine m_newa (atype := .int) X Y hA 0 rfl rfl kwX8_init_4 100 (100, .inl (fun _ => 0)) (fun _ => rfl) (by decide) (by decide) (by decide) (by decide) (by decide) dX8_init_77 (fun q136 H fq136 Y => ?_)
  obtain ⟨M137, eM137⟩ : ∃ zz9 : Mp, zz9 = mu M125 q136 (irow (kc 0) 100 (fun _ => 0)) := ⟨_, rfl⟩
  replace Y : mY D A M137 s H locs := by rw [eM137]; exact Y
  have hh138 : M137 q1 = some (irow (kc 0) 8 (fun _ => 0)) := by rw [eM137, mu_ne _ _ (ne_fresh hh126 fq136)]; exact hh126
  have hh139 : M137 q8 = some (irow (kc 0) 3 (fun _ => 0)) := by rw [eM137, mu_ne _ _ (ne_fresh hh127 fq136)]; exact hh127
  have hh140 : M137 q17 = some (irow (kc 0) 3 (fun _ => 0)) := by rw [eM137, mu_ne _ _ (ne_fresh hh128 fq136)]; exact hh128
  have hh141 : M137 q28 = some (irow (kc 0) 60 (fun _ => 0)) := by rw [eM137, mu_ne _ _ (ne_fresh hh129 fq136)]; exact hh129
  have hh142 : M137 q41 = some (irow (kc 0) 60 (fun _ => 0)) := by rw [eM137, mu_ne _ _ (ne_fresh hh130 fq136)]; exact hh130
  have hh143 : M137 q56 = some (irow (kc 0) 60 (fun _ => 0)) := by rw [eM137, mu_ne _ _ (ne_fresh hh131 fq136)]; exact hh131
  have hh144 : M137 q73 = some (irow (kc 0) 60 (fun _ => 0)) := by rw [eM137, mu_ne _ _ (ne_fresh hh132 fq136)]; exact hh132
  have hh145 : M137 q92 = some (irow (kc 0) 60 (fun _ => 0)) := by rw [eM137, mu_ne _ _ (ne_fresh hh133 fq136)]; exact hh133
  have hh146 : M137 q113 = some (irow (kc 2) 60 (fun _ => 0)) := by rw [eM137, mu_ne _ _ (ne_fresh hh134 fq136)]; exact hh134
  have hh147 : M137 h0 = some (.inr (9, [.int 0, .ref q1, .ref q8, .ref q17, .int 0, .ref q28, .ref q41, .ref q56, .ref q73, .ref q92, .ref q113, .int 0, .null, .null, .null, .null, .int 0, .null, .null, .null, .null, .int 0, .null, .null, .int 0])) := by rw [eM137, mu_ne _ _ (ne_fresh hh135 fq136)]; exact hh135
  have hh148 : M137 q136 = some (irow (kc 0) 100 (fun _ => 0)) := by rw [eM137]; exact mu_self _ _ _
  refine m_putF (ref := "CardPortModel") (C := RX8) (T := TX8) (N := 25) (ci := 9) X Y htX8_init_wsX801 tyX8 tyX8_ok nmX8 hin hh147 rfl 12 (by decide) kwX8_init_15 rfl rfl rfl (v := .ref q136) rfl rfl (Nat.le_of_ble_eq_true rfl) dX8_init_79 (fun H locs Y => ?_)
  obtain ⟨M149, eM149⟩ : ∃ zz9 : Mp, zz9 = mu M137 h0 (.inr (9, [.int 0, .ref q1, .ref q8, .ref q17, .int 0, .ref q28, .ref q41, .ref q56, .ref q73, .ref q92, .ref q113, .int 0, .ref q136, .null, .null, .null, .int 0, .null, .null, .null, .null, .int 0, .null, .null, .int 0])) := ⟨_, rfl⟩
  replace Y : mY D A M149 s H locs := by rw [eM149]; exact Y
  have hh150 : M149 q1 = some (irow (kc 0) 8 (fun _ => 0)) := by rw [eM149, mu_ne _ _ (Ne.symm (ne_fresh hm fq1))]; exact hh138
  have hh151 : M149 q8 = some (irow (kc 0) 3 (fun _ => 0)) := by rw [eM149, mu_ne _ _ (Ne.symm (ne_fresh hh7 fq8))]; exact hh139
  have hh152 : M149 q17 = some (irow (kc 0) 3 (fun _ => 0)) := by rw [eM149, mu_ne _ _ (Ne.symm (ne_fresh hh16 fq17))]; exact hh140
  have hh153 : M149 q28 = some (irow (kc 0) 60 (fun _ => 0)) := by rw [eM149, mu_ne _ _ (Ne.symm (ne_fresh hh27 fq28))]; exact hh141
  have hh154 : M149 q41 = some (irow (kc 0) 60 (fun _ => 0)) := by rw [eM149, mu_ne _ _ (Ne.symm (ne_fresh hh40 fq41))]; exact hh142
  have hh155 : M149 q56 = some (irow (kc 0) 60 (fun _ => 0)) := by rw [eM149, mu_ne _ _ (Ne.symm (ne_fresh hh55 fq56))]; exact hh143
  have hh156 : M149 q73 = some (irow (kc 0) 60 (fun _ => 0)) := by rw [eM149, mu_ne _ _ (Ne.symm (ne_fresh hh72 fq73))]; exact hh144
  have hh157 : M149 q92 = some (irow (kc 0) 60 (fun _ => 0)) := by rw [eM149, mu_ne _ _ (Ne.symm (ne_fresh hh91 fq92))]; exact hh145
  have hh158 : M149 q113 = some (irow (kc 2) 60 (fun _ => 0)) := by rw [eM149, mu_ne _ _ (Ne.symm (ne_fresh hh112 fq113))]; exact hh146
  have hh159 : M149 q136 = some (irow (kc 0) 100 (fun _ => 0)) := by rw [eM149, mu_ne _ _ (Ne.symm (ne_fresh hh135 fq136))]; exact hh148
  have hh160 : M149 h0 = some (.inr (9, [.int 0, .ref q1, .ref q8, .ref q17, .int 0, .ref q28, .ref q41, .ref q56, .ref q73, .ref q92, .ref q113, .int 0, .ref q136, .null, .null, .null, .int 0, .null, .null, .null, .null, .int 0, .null, .null, .int 0])) := by rw [eM149]; exact mu_self _ _ _
  refine lv_aload_n hx hb dX8_init_82 rfl (lv_at hl 0 rfl) ?_
  refine n_bipush hx hb 100 dX8_init_83 (by decide) ?_
  refine m_newa (atype := .int) X Y hA 0 rfl rfl kwX8_init_4 100 (100, .inl (fun _ => 0)) (fun _ => rfl) (by decide) (by decide) (by decide) (by decide) (by decide) dX8_init_85 (fun q161 H fq161 Y => ?_)
  obtain ⟨M162, eM162⟩ : ∃ zz9 : Mp, zz9 = mu M149 q161 (irow (kc 0) 100 (fun _ => 0)) := ⟨_, rfl⟩
  replace Y : mY D A M162 s H locs := by rw [eM162]; exact Y
  have hh163 : M162 q1 = some (irow (kc 0) 8 (fun _ => 0)) := by rw [eM162, mu_ne _ _ (ne_fresh hh150 fq161)]; exact hh150
  have hh164 : M162 q8 = some (irow (kc 0) 3 (fun _ => 0)) := by rw [eM162, mu_ne _ _ (ne_fresh hh151 fq161)]; exact hh151
  have hh165 : M162 q17 = some (irow (kc 0) 3 (fun _ => 0)) := by rw [eM162, mu_ne _ _ (ne_fresh hh152 fq161)]; exact hh152
  have hh166 : M162 q28 = some (irow (kc 0) 60 (fun _ => 0)) := by rw [eM162, mu_ne _ _ (ne_fresh hh153 fq161)]; exact hh153
  have hh167 : M162 q41 = some (irow (kc 0) 60 (fun _ => 0)) := by rw [eM162, mu_ne _ _ (ne_fresh hh154 fq161)]; exact hh154
  have hh168 : M162 q56 = some (irow (kc 0) 60 (fun _ => 0)) := by rw [eM162, mu_ne _ _ (ne_fresh hh155 fq161)]; exact hh155
  have hh169 : M162 q73 = some (irow (kc 0) 60 (fun _ => 0)) := by rw [eM162, mu_ne _ _ (ne_fresh hh156 fq161)]; exact hh156
  have hh170 : M162 q92 = some (irow (kc 0) 60 (fun _ => 0)) := by rw [eM162, mu_ne _ _ (ne_fresh hh157 fq161)]; exact hh157
  have hh171 : M162 q113 = some (irow (kc 2) 60 (fun _ => 0)) := by rw [eM162, mu_ne _ _ (ne_fresh hh158 fq161)]; exact hh158
  have hh172 : M162 q136 = some (irow (kc 0) 100 (fun _ => 0)) := by rw [eM162, mu_ne _ _ (ne_fresh hh159 fq161)]; exact hh159
  have hh173 : M162 h0 = some (.inr (9, [.int 0, .ref q1, .ref q8, .ref q17, .int 0, .ref q28, .ref q41, .ref q56, .ref q73, .ref q92, .ref q113, .int 0, .ref q136, .null, .null, .null, .int 0, .null, .null, .null, .null, .int 0, .null, .null, .int 0])) := by rw [eM162, mu_ne _ _ (ne_fresh hh160 fq161)]; exact hh160
  have hh174 : M162 q161 = some (irow (kc 0) 100 (fun _ => 0)) := by rw [eM162]; exact mu_self _ _ _
  refine m_putF (ref := "CardPortModel") (C := RX8) (T := TX8) (N := 25) (ci := 9) X Y htX8_init_wsX801 tyX8 tyX8_ok nmX8 hin hh173 rfl 13 (by decide) kwX8_init_16 rfl rfl rfl (v := .ref q161) rfl rfl (Nat.le_of_ble_eq_true rfl) dX8_init_87 (fun H locs Y => ?_)
  obtain ⟨M175, eM175⟩ : ∃ zz9 : Mp, zz9 = mu M162 h0 (.inr (9, [.int 0, .ref q1, .ref q8, .ref q17, .int 0, .ref q28, .ref q41, .ref q56, .ref q73, .ref q92, .ref q113, .int 0, .ref q136, .ref q161, .null, .null, .int 0, .null, .null, .null, .null, .int 0, .null, .null, .int 0])) := ⟨_, rfl⟩
  replace Y : mY D A M175 s H locs := by rw [eM175]; exact Y
  have hh176 : M175 q1 = some (irow (kc 0) 8 (fun _ => 0)) := by rw [eM175, mu_ne _ _ (Ne.symm (ne_fresh hm fq1))]; exact hh163
  have hh177 : M175 q8 = some (irow (kc 0) 3 (fun _ => 0)) := by rw [eM175, mu_ne _ _ (Ne.symm (ne_fresh hh7 fq8))]; exact hh164
  have hh178 : M175 q17 = some (irow (kc 0) 3 (fun _ => 0)) := by rw [eM175, mu_ne _ _ (Ne.symm (ne_fresh hh16 fq17))]; exact hh165
  have hh179 : M175 q28 = some (irow (kc 0) 60 (fun _ => 0)) := by rw [eM175, mu_ne _ _ (Ne.symm (ne_fresh hh27 fq28))]; exact hh166
  have hh180 : M175 q41 = some (irow (kc 0) 60 (fun _ => 0)) := by rw [eM175, mu_ne _ _ (Ne.symm (ne_fresh hh40 fq41))]; exact hh167
  have hh181 : M175 q56 = some (irow (kc 0) 60 (fun _ => 0)) := by rw [eM175, mu_ne _ _ (Ne.symm (ne_fresh hh55 fq56))]; exact hh168
  have hh182 : M175 q73 = some (irow (kc 0) 60 (fun _ => 0)) := by rw [eM175, mu_ne _ _ (Ne.symm (ne_fresh hh72 fq73))]; exact hh169
  have hh183 : M175 q92 = some (irow (kc 0) 60 (fun _ => 0)) := by rw [eM175, mu_ne _ _ (Ne.symm (ne_fresh hh91 fq92))]; exact hh170
  have hh184 : M175 q113 = some (irow (kc 2) 60 (fun _ => 0)) := by rw [eM175, mu_ne _ _ (Ne.symm (ne_fresh hh112 fq113))]; exact hh171
  have hh185 : M175 q136 = some (irow (kc 0) 100 (fun _ => 0)) := by rw [eM175, mu_ne _ _ (Ne.symm (ne_fresh hh135 fq136))]; exact hh172
  have hh186 : M175 q161 = some (irow (kc 0) 100 (fun _ => 0)) := by rw [eM175, mu_ne _ _ (Ne.symm (ne_fresh hh160 fq161))]; exact hh174
  have hh187 : M175 h0 = some (.inr (9, [.int 0, .ref q1, .ref q8, .ref q17, .int 0, .ref q28, .ref q41, .ref q56, .ref q73, .ref q92, .ref q113, .int 0, .ref q136, .ref q161, .null, .null, .int 0, .null, .null, .null, .null, .int 0, .null, .null, .int 0])) := by rw [eM175]; exact mu_self _ _ _
  refine lv_aload_n hx hb dX8_init_90 rfl (lv_at hl 0 rfl) ?_
  refine n_bipush hx hb 100 dX8_init_91 (by decide) ?_
  refine m_newa (atype := .int) X Y hA 0 rfl rfl kwX8_init_4 100 (100, .inl (fun _ => 0)) (fun _ => rfl) (by decide) (by decide) (by decide) (by decide) (by decide) dX8_init_93 (fun q188 H fq188 Y => ?_)
  obtain ⟨M189, eM189⟩ : ∃ zz9 : Mp, zz9 = mu M175 q188 (irow (kc 0) 100 (fun _ => 0)) := ⟨_, rfl⟩
  replace Y : mY D A M189 s H locs := by rw [eM189]; exact Y
  have hh190 : M189 q1 = some (irow (kc 0) 8 (fun _ => 0)) := by rw [eM189, mu_ne _ _ (ne_fresh hh176 fq188)]; exact hh176
  have hh191 : M189 q8 = some (irow (kc 0) 3 (fun _ => 0)) := by rw [eM189, mu_ne _ _ (ne_fresh hh177 fq188)]; exact hh177
  have hh192 : M189 q17 = some (irow (kc 0) 3 (fun _ => 0)) := by rw [eM189, mu_ne _ _ (ne_fresh hh178 fq188)]; exact hh178
  have hh193 : M189 q28 = some (irow (kc 0) 60 (fun _ => 0)) := by rw [eM189, mu_ne _ _ (ne_fresh hh179 fq188)]; exact hh179
  have hh194 : M189 q41 = some (irow (kc 0) 60 (fun _ => 0)) := by rw [eM189, mu_ne _ _ (ne_fresh hh180 fq188)]; exact hh180
  have hh195 : M189 q56 = some (irow (kc 0) 60 (fun _ => 0)) := by rw [eM189, mu_ne _ _ (ne_fresh hh181 fq188)]; exact hh181
  have hh196 : M189 q73 = some (irow (kc 0) 60 (fun _ => 0)) := by rw [eM189, mu_ne _ _ (ne_fresh hh182 fq188)]; exact hh182
  have hh197 : M189 q92 = some (irow (kc 0) 60 (fun _ => 0)) := by rw [eM189, mu_ne _ _ (ne_fresh hh183 fq188)]; exact hh183
  have hh198 : M189 q113 = some (irow (kc 2) 60 (fun _ => 0)) := by rw [eM189, mu_ne _ _ (ne_fresh hh184 fq188)]; exact hh184
  have hh199 : M189 q136 = some (irow (kc 0) 100 (fun _ => 0)) := by rw [eM189, mu_ne _ _ (ne_fresh hh185 fq188)]; exact hh185
  have hh200 : M189 q161 = some (irow (kc 0) 100 (fun _ => 0)) := by rw [eM189, mu_ne _ _ (ne_fresh hh186 fq188)]; exact hh186
  have hh201 : M189 h0 = some (.inr (9, [.int 0, .ref q1, .ref q8, .ref q17, .int 0, .ref q28, .ref q41, .ref q56, .ref q73, .ref q92, .ref q113, .int 0, .ref q136, .ref q161, .null, .null, .int 0, .null, .null, .null, .null, .int 0, .null, .null, .int 0])) := by rw [eM189, mu_ne _ _ (ne_fresh hh187 fq188)]; exact hh187
  have hh202 : M189 q188 = some (irow (kc 0) 100 (fun _ => 0)) := by rw [eM189]; exact mu_self _ _ _
  refine m_putF (ref := "CardPortModel") (C := RX8) (T := TX8) (N := 25) (ci := 9) X Y htX8_init_wsX801 tyX8 tyX8_ok nmX8 hin hh201 rfl 14 (by decide) kwX8_init_17 rfl rfl rfl (v := .ref q188) rfl rfl (Nat.le_of_ble_eq_true rfl) dX8_init_95 (fun H locs Y => ?_)
  obtain ⟨M203, eM203⟩ : ∃ zz9 : Mp, zz9 = mu M189 h0 (.inr (9, [.int 0, .ref q1, .ref q8, .ref q17, .int 0, .ref q28, .ref q41, .ref q56, .ref q73, .ref q92, .ref q113, .int 0, .ref q136, .ref q161, .ref q188, .null, .int 0, .null, .null, .null, .null, .int 0, .null, .null, .int 0])) := ⟨_, rfl⟩
  replace Y : mY D A M203 s H locs := by rw [eM203]; exact Y
  have hh204 : M203 q1 = some (irow (kc 0) 8 (fun _ => 0)) := by rw [eM203, mu_ne _ _ (Ne.symm (ne_fresh hm fq1))]; exact hh190
  have hh205 : M203 q8 = some (irow (kc 0) 3 (fun _ => 0)) := by rw [eM203, mu_ne _ _ (Ne.symm (ne_fresh hh7 fq8))]; exact hh191
  have hh206 : M203 q17 = some (irow (kc 0) 3 (fun _ => 0)) := by rw [eM203, mu_ne _ _ (Ne.symm (ne_fresh hh16 fq17))]; exact hh192
  have hh207 : M203 q28 = some (irow (kc 0) 60 (fun _ => 0)) := by rw [eM203, mu_ne _ _ (Ne.symm (ne_fresh hh27 fq28))]; exact hh193
  have hh208 : M203 q41 = some (irow (kc 0) 60 (fun _ => 0)) := by rw [eM203, mu_ne _ _ (Ne.symm (ne_fresh hh40 fq41))]; exact hh194
  have hh209 : M203 q56 = some (irow (kc 0) 60 (fun _ => 0)) := by rw [eM203, mu_ne _ _ (Ne.symm (ne_fresh hh55 fq56))]; exact hh195
  have hh210 : M203 q73 = some (irow (kc 0) 60 (fun _ => 0)) := by rw [eM203, mu_ne _ _ (Ne.symm (ne_fresh hh72 fq73))]; exact hh196
  have hh211 : M203 q92 = some (irow (kc 0) 60 (fun _ => 0)) := by rw [eM203, mu_ne _ _ (Ne.symm (ne_fresh hh91 fq92))]; exact hh197
  have hh212 : M203 q113 = some (irow (kc 2) 60 (fun _ => 0)) := by rw [eM203, mu_ne _ _ (Ne.symm (ne_fresh hh112 fq113))]; exact hh198
  have hh213 : M203 q136 = some (irow (kc 0) 100 (fun _ => 0)) := by rw [eM203, mu_ne _ _ (Ne.symm (ne_fresh hh135 fq136))]; exact hh199
  have hh214 : M203 q161 = some (irow (kc 0) 100 (fun _ => 0)) := by rw [eM203, mu_ne _ _ (Ne.symm (ne_fresh hh160 fq161))]; exact hh200
  have hh215 : M203 q188 = some (irow (kc 0) 100 (fun _ => 0)) := by rw [eM203, mu_ne _ _ (Ne.symm (ne_fresh hh187 fq188))]; exact hh202
  have hh216 : M203 h0 = some (.inr (9, [.int 0, .ref q1, .ref q8, .ref q17, .int 0, .ref q28, .ref q41, .ref q56, .ref q73, .ref q92, .ref q113, .int 0, .ref q136, .ref q161, .ref q188, .null, .int 0, .null, .null, .null, .null, .int 0, .null, .null, .int 0])) := by rw [eM203]; exact mu_self _ _ _
  refine lv_aload_n hx hb dX8_init_98 rfl (lv_at hl 0 rfl) ?_
  refine n_bipush hx hb 100 dX8_init_99 (by decide) ?_
  refine m_newa (atype := .int) X Y hA 0 rfl rfl kwX8_init_4 100 (100, .inl (fun _ => 0)) (fun _ => rfl) (by decide) (by decide) (by decide) (by decide) (by decide) dX8_init_101 (fun q217 H fq217 Y => ?_)
  obtain ⟨M218, eM218⟩ : ∃ zz9 : Mp, zz9 = mu M203 q217 (irow (kc 0) 100 (fun _ => 0)) := ⟨_, rfl⟩
  replace Y : mY D A M218 s H locs := by rw [eM218]; exact Y
  have hh219 : M218 q1 = some (irow (kc 0) 8 (fun _ => 0)) := by rw [eM218, mu_ne _ _ (ne_fresh hh204 fq217)]; exact hh204
  have hh220 : M218 q8 = some (irow (kc 0) 3 (fun _ => 0)) := by rw [eM218, mu_ne _ _ (ne_fresh hh205 fq217)]; exact hh205
  have hh221 : M218 q17 = some (irow (kc 0) 3 (fun _ => 0)) := by rw [eM218, mu_ne _ _ (ne_fresh hh206 fq217)]; exact hh206
  have hh222 : M218 q28 = some (irow (kc 0) 60 (fun _ => 0)) := by rw [eM218, mu_ne _ _ (ne_fresh hh207 fq217)]; exact hh207
  have hh223 : M218 q41 = some (irow (kc 0) 60 (fun _ => 0)) := by rw [eM218, mu_ne _ _ (ne_fresh hh208 fq217)]; exact hh208
  have hh224 : M218 q56 = some (irow (kc 0) 60 (fun _ => 0)) := by rw [eM218, mu_ne _ _ (ne_fresh hh209 fq217)]; exact hh209
  have hh225 : M218 q73 = some (irow (kc 0) 60 (fun _ => 0)) := by rw [eM218, mu_ne _ _ (ne_fresh hh210 fq217)]; exact hh210
  have hh226 : M218 q92 = some (irow (kc 0) 60 (fun _ => 0)) := by rw [eM218, mu_ne _ _ (ne_fresh hh211 fq217)]; exact hh211
  have hh227 : M218 q113 = some (irow (kc 2) 60 (fun _ => 0)) := by rw [eM218, mu_ne _ _ (ne_fresh hh212 fq217)]; exact hh212
  have hh228 : M218 q136 = some (irow (kc 0) 100 (fun _ => 0)) := by rw [eM218, mu_ne _ _ (ne_fresh hh213 fq217)]; exact hh213
  have hh229 : M218 q161 = some (irow (kc 0) 100 (fun _ => 0)) := by rw [eM218, mu_ne _ _ (ne_fresh hh214 fq217)]; exact hh214
  have hh230 : M218 q188 = some (irow (kc 0) 100 (fun _ => 0)) := by rw [eM218, mu_ne _ _ (ne_fresh hh215 fq217)]; exact hh215
  have hh231 : M218 h0 = some (.inr (9, [.int 0, .ref q1, .ref q8, .ref q17, .int 0, .ref q28, .ref q41, .ref q56, .ref q73, .ref q92, .ref q113, .int 0, .ref q136, .ref q161, .ref q188, .null, .int 0, .null, .null, .null, .null, .int 0, .null, .null, .int 0])) := by rw [eM218, mu_ne _ _ (ne_fresh hh216 fq217)]; exact hh216
  have hh232 : M218 q217 = some (irow (kc 0) 100 (fun _ => 0)) := by rw [eM218]; exact mu_self _ _ _
  refine m_putF (ref := "CardPortModel") (C := RX8) (T := TX8) (N := 25) (ci := 9) X Y htX8_init_wsX801 tyX8 tyX8_ok nmX8 hin hh231 rfl 15 (by decide) kwX8_init_18 rfl rfl rfl (v := .ref q217) rfl rfl (Nat.le_of_ble_eq_true rfl) dX8_init_103 (fun H locs Y => ?_)
  obtain ⟨M233, eM233⟩ : ∃ zz9 : Mp, zz9 = mu M218 h0 (.inr (9, [.int 0, .ref q1, .ref q8, .ref q17, .int 0, .ref q28, .ref q41, .ref q56, .ref q73, .ref q92, .ref q113, .int 0, .ref q136, .ref q161, .ref q188, .ref q217, .int 0, .null, .null, .null, .null, .int 0, .null, .null, .int 0])) := ⟨_, rfl⟩
  replace Y : mY D A M233 s H locs := by rw [eM233]; exact Y
  have hh234 : M233 q1 = some (irow (kc 0) 8 (fun _ => 0)) := by rw [eM233, mu_ne _ _ (Ne.symm (ne_fresh hm fq1))]; exact hh219
  have hh235 : M233 q8 = some (irow (kc 0) 3 (fun _ => 0)) := by rw [eM233, mu_ne _ _ (Ne.symm (ne_fresh hh7 fq8))]; exact hh220
  have hh236 : M233 q17 = some (irow (kc 0) 3 (fun _ => 0)) := by rw [eM233, mu_ne _ _ (Ne.symm (ne_fresh hh16 fq17))]; exact hh221
  have hh237 : M233 q28 = some (irow (kc 0) 60 (fun _ => 0)) := by rw [eM233, mu_ne _ _ (Ne.symm (ne_fresh hh27 fq28))]; exact hh222
  have hh238 : M233 q41 = some (irow (kc 0) 60 (fun _ => 0)) := by rw [eM233, mu_ne _ _ (Ne.symm (ne_fresh hh40 fq41))]; exact hh223
  have hh239 : M233 q56 = some (irow (kc 0) 60 (fun _ => 0)) := by rw [eM233, mu_ne _ _ (Ne.symm (ne_fresh hh55 fq56))]; exact hh224
  have hh240 : M233 q73 = some (irow (kc 0) 60 (fun _ => 0)) := by rw [eM233, mu_ne _ _ (Ne.symm (ne_fresh hh72 fq73))]; exact hh225
  have hh241 : M233 q92 = some (irow (kc 0) 60 (fun _ => 0)) := by rw [eM233, mu_ne _ _ (Ne.symm (ne_fresh hh91 fq92))]; exact hh226
  have hh242 : M233 q113 = some (irow (kc 2) 60 (fun _ => 0)) := by rw [eM233, mu_ne _ _ (Ne.symm (ne_fresh hh112 fq113))]; exact hh227
  have hh243 : M233 q136 = some (irow (kc 0) 100 (fun _ => 0)) := by rw [eM233, mu_ne _ _ (Ne.symm (ne_fresh hh135 fq136))]; exact hh228
  have hh244 : M233 q161 = some (irow (kc 0) 100 (fun _ => 0)) := by rw [eM233, mu_ne _ _ (Ne.symm (ne_fresh hh160 fq161))]; exact hh229
  have hh245 : M233 q188 = some (irow (kc 0) 100 (fun _ => 0)) := by rw [eM233, mu_ne _ _ (Ne.symm (ne_fresh hh187 fq188))]; exact hh230
  have hh246 : M233 q217 = some (irow (kc 0) 100 (fun _ => 0)) := by rw [eM233, mu_ne _ _ (Ne.symm (ne_fresh hh216 fq217))]; exact hh232
  have hh247 : M233 h0 = some (.inr (9, [.int 0, .ref q1, .ref q8, .ref q17, .int 0, .ref q28, .ref q41, .ref q56, .ref q73, .ref q92, .ref q113, .int 0, .ref q136, .ref q161, .ref q188, .ref q217, .int 0, .null, .null, .null, .null, .int 0, .null, .null, .int 0])) := by rw [eM233]; exact mu_self _ _ _
  refine lv_aload_n hx hb dX8_init_106 rfl (lv_at hl 0 rfl) ?_
  refine n_bipush hx hb 60 dX8_init_107 (by decide) ?_
  refine m_newa (atype := .int) X Y hA 0 rfl rfl kwX8_init_4 60 (60, .inl (fun _ => 0)) (fun _ => rfl) (by decide) (by decide) (by decide) (by decide) (by decide) dX8_init_109 (fun q248 H fq248 Y => ?_)
  obtain ⟨M249, eM249⟩ : ∃ zz9 : Mp, zz9 = mu M233 q248 (irow (kc 0) 60 (fun _ => 0)) := ⟨_, rfl⟩
  replace Y : mY D A M249 s H locs := by rw [eM249]; exact Y
  have hh250 : M249 q1 = some (irow (kc 0) 8 (fun _ => 0)) := by rw [eM249, mu_ne _ _ (ne_fresh hh234 fq248)]; exact hh234
  have hh251 : M249 q8 = some (irow (kc 0) 3 (fun _ => 0)) := by rw [eM249, mu_ne _ _ (ne_fresh hh235 fq248)]; exact hh235
  have hh252 : M249 q17 = some (irow (kc 0) 3 (fun _ => 0)) := by rw [eM249, mu_ne _ _ (ne_fresh hh236 fq248)]; exact hh236
  have hh253 : M249 q28 = some (irow (kc 0) 60 (fun _ => 0)) := by rw [eM249, mu_ne _ _ (ne_fresh hh237 fq248)]; exact hh237
  have hh254 : M249 q41 = some (irow (kc 0) 60 (fun _ => 0)) := by rw [eM249, mu_ne _ _ (ne_fresh hh238 fq248)]; exact hh238
  have hh255 : M249 q56 = some (irow (kc 0) 60 (fun _ => 0)) := by rw [eM249, mu_ne _ _ (ne_fresh hh239 fq248)]; exact hh239
  have hh256 : M249 q73 = some (irow (kc 0) 60 (fun _ => 0)) := by rw [eM249, mu_ne _ _ (ne_fresh hh240 fq248)]; exact hh240
  have hh257 : M249 q92 = some (irow (kc 0) 60 (fun _ => 0)) := by rw [eM249, mu_ne _ _ (ne_fresh hh241 fq248)]; exact hh241
  have hh258 : M249 q113 = some (irow (kc 2) 60 (fun _ => 0)) := by rw [eM249, mu_ne _ _ (ne_fresh hh242 fq248)]; exact hh242
  have hh259 : M249 q136 = some (irow (kc 0) 100 (fun _ => 0)) := by rw [eM249, mu_ne _ _ (ne_fresh hh243 fq248)]; exact hh243
  have hh260 : M249 q161 = some (irow (kc 0) 100 (fun _ => 0)) := by rw [eM249, mu_ne _ _ (ne_fresh hh244 fq248)]; exact hh244
  have hh261 : M249 q188 = some (irow (kc 0) 100 (fun _ => 0)) := by rw [eM249, mu_ne _ _ (ne_fresh hh245 fq248)]; exact hh245
  have hh262 : M249 q217 = some (irow (kc 0) 100 (fun _ => 0)) := by rw [eM249, mu_ne _ _ (ne_fresh hh246 fq248)]; exact hh246
  have hh263 : M249 h0 = some (.inr (9, [.int 0, .ref q1, .ref q8, .ref q17, .int 0, .ref q28, .ref q41, .ref q56, .ref q73, .ref q92, .ref q113, .int 0, .ref q136, .ref q161, .ref q188, .ref q217, .int 0, .null, .null, .null, .null, .int 0, .null, .null, .int 0])) := by rw [eM249, mu_ne _ _ (ne_fresh hh247 fq248)]; exact hh247
  have hh264 : M249 q248 = some (irow (kc 0) 60 (fun _ => 0)) := by rw [eM249]; exact mu_self _ _ _
  refine m_putF (ref := "CardPortModel") (C := RX8) (T := TX8) (N := 25) (ci := 9) X Y htX8_init_wsX801 tyX8 tyX8_ok nmX8 hin hh263 rfl 17 (by decide) kwX8_init_19 rfl rfl rfl (v := .ref q248) rfl rfl (Nat.le_of_ble_eq_true rfl) dX8_init_111 (fun H locs Y => ?_)
  obtain ⟨M265, eM265⟩ : ∃ zz9 : Mp, zz9 = mu M249 h0 (.inr (9, [.int 0, .ref q1, .ref q8, .ref q17, .int 0, .ref q28, .ref q41, .ref q56, .ref q73, .ref q92, .ref q113, .int 0, .ref q136, .ref q161, .ref q188, .ref q217, .int 0, .ref q248, .null, .null, .null, .int 0, .null, .null, .int 0])) := ⟨_, rfl⟩
  replace Y : mY D A M265 s H locs := by rw [eM265]; exact Y
  have hh266 : M265 q1 = some (irow (kc 0) 8 (fun _ => 0)) := by rw [eM265, mu_ne _ _ (Ne.symm (ne_fresh hm fq1))]; exact hh250
  have hh267 : M265 q8 = some (irow (kc 0) 3 (fun _ => 0)) := by rw [eM265, mu_ne _ _ (Ne.symm (ne_fresh hh7 fq8))]; exact hh251
  have hh268 : M265 q17 = some (irow (kc 0) 3 (fun _ => 0)) := by rw [eM265, mu_ne _ _ (Ne.symm (ne_fresh hh16 fq17))]; exact hh252
  have hh269 : M265 q28 = some (irow (kc 0) 60 (fun _ => 0)) := by rw [eM265, mu_ne _ _ (Ne.symm (ne_fresh hh27 fq28))]; exact hh253
  have hh270 : M265 q41 = some (irow (kc 0) 60 (fun _ => 0)) := by rw [eM265, mu_ne _ _ (Ne.symm (ne_fresh hh40 fq41))]; exact hh254
  have hh271 : M265 q56 = some (irow (kc 0) 60 (fun _ => 0)) := by rw [eM265, mu_ne _ _ (Ne.symm (ne_fresh hh55 fq56))]; exact hh255
  have hh272 : M265 q73 = some (irow (kc 0) 60 (fun _ => 0)) := by rw [eM265, mu_ne _ _ (Ne.symm (ne_fresh hh72 fq73))]; exact hh256
  have hh273 : M265 q92 = some (irow (kc 0) 60 (fun _ => 0)) := by rw [eM265, mu_ne _ _ (Ne.symm (ne_fresh hh91 fq92))]; exact hh257
  have hh274 : M265 q113 = some (irow (kc 2) 60 (fun _ => 0)) := by rw [eM265, mu_ne _ _ (Ne.symm (ne_fresh hh112 fq113))]; exact hh258
  have hh275 : M265 q136 = some (irow (kc 0) 100 (fun _ => 0)) := by rw [eM265, mu_ne _ _ (Ne.symm (ne_fresh hh135 fq136))]; exact hh259
  have hh276 : M265 q161 = some (irow (kc 0) 100 (fun _ => 0)) := by rw [eM265, mu_ne _ _ (Ne.symm (ne_fresh hh160 fq161))]; exact hh260
  have hh277 : M265 q188 = some (irow (kc 0) 100 (fun _ => 0)) := by rw [eM265, mu_ne _ _ (Ne.symm (ne_fresh hh187 fq188))]; exact hh261
  have hh278 : M265 q217 = some (irow (kc 0) 100 (fun _ => 0)) := by rw [eM265, mu_ne _ _ (Ne.symm (ne_fresh hh216 fq217))]; exact hh262
  have hh279 : M265 q248 = some (irow (kc 0) 60 (fun _ => 0)) := by rw [eM265, mu_ne _ _ (Ne.symm (ne_fresh hh247 fq248))]; exact hh264
  have hh280 : M265 h0 = some (.inr (9, [.int 0, .ref q1, .ref q8, .ref q17, .int 0, .ref q28, .ref q41, .ref q56, .ref q73, .ref q92, .ref q113, .int 0, .ref q136, .ref q161, .ref q188, .ref q217, .int 0, .ref q248, .null, .null, .null, .int 0, .null, .null, .int 0])) := by rw [eM265]; exact mu_self _ _ _
  refine lv_aload_n hx hb dX8_init_114 rfl (lv_at hl 0 rfl) ?_
  refine n_bipush hx hb 60 dX8_init_115 (by decide) ?_
  refine m_newa (atype := .int) X Y hA 0 rfl rfl kwX8_init_4 60 (60, .inl (fun _ => 0)) (fun _ => rfl) (by decide) (by decide) (by decide) (by decide) (by decide) dX8_init_117 (fun q281 H fq281 Y => ?_)
  obtain ⟨M282, eM282⟩ : ∃ zz9 : Mp, zz9 = mu M265 q281 (irow (kc 0) 60 (fun _ => 0)) := ⟨_, rfl⟩
  replace Y : mY D A M282 s H locs := by rw [eM282]; exact Y
  have hh283 : M282 q1 = some (irow (kc 0) 8 (fun _ => 0)) := by rw [eM282, mu_ne _ _ (ne_fresh hh266 fq281)]; exact hh266
  have hh284 : M282 q8 = some (irow (kc 0) 3 (fun _ => 0)) := by rw [eM282, mu_ne _ _ (ne_fresh hh267 fq281)]; exact hh267
  have hh285 : M282 q17 = some (irow (kc 0) 3 (fun _ => 0)) := by rw [eM282, mu_ne _ _ (ne_fresh hh268 fq281)]; exact hh268
  have hh286 : M282 q28 = some (irow (kc 0) 60 (fun _ => 0)) := by rw [eM282, mu_ne _ _ (ne_fresh hh269 fq281)]; exact hh269
  have hh287 : M282 q41 = some (irow (kc 0) 60 (fun _ => 0)) := by rw [eM282, mu_ne _ _ (ne_fresh hh270 fq281)]; exact hh270
  have hh288 : M282 q56 = some (irow (kc 0) 60 (fun _ => 0)) := by rw [eM282, mu_ne _ _ (ne_fresh hh271 fq281)]; exact hh271
  have hh289 : M282 q73 = some (irow (kc 0) 60 (fun _ => 0)) := by rw [eM282, mu_ne _ _ (ne_fresh hh272 fq281)]; exact hh272
  have hh290 : M282 q92 = some (irow (kc 0) 60 (fun _ => 0)) := by rw [eM282, mu_ne _ _ (ne_fresh hh273 fq281)]; exact hh273
  have hh291 : M282 q113 = some (irow (kc 2) 60 (fun _ => 0)) := by rw [eM282, mu_ne _ _ (ne_fresh hh274 fq281)]; exact hh274
  have hh292 : M282 q136 = some (irow (kc 0) 100 (fun _ => 0)) := by rw [eM282, mu_ne _ _ (ne_fresh hh275 fq281)]; exact hh275
  have hh293 : M282 q161 = some (irow (kc 0) 100 (fun _ => 0)) := by rw [eM282, mu_ne _ _ (ne_fresh hh276 fq281)]; exact hh276
  have hh294 : M282 q188 = some (irow (kc 0) 100 (fun _ => 0)) := by rw [eM282, mu_ne _ _ (ne_fresh hh277 fq281)]; exact hh277
  have hh295 : M282 q217 = some (irow (kc 0) 100 (fun _ => 0)) := by rw [eM282, mu_ne _ _ (ne_fresh hh278 fq281)]; exact hh278
  have hh296 : M282 q248 = some (irow (kc 0) 60 (fun _ => 0)) := by rw [eM282, mu_ne _ _ (ne_fresh hh279 fq281)]; exact hh279
  have hh297 : M282 h0 = some (.inr (9, [.int 0, .ref q1, .ref q8, .ref q17, .int 0, .ref q28, .ref q41, .ref q56, .ref q73, .ref q92, .ref q113, .int 0, .ref q136, .ref q161, .ref q188, .ref q217, .int 0, .ref q248, .null, .null, .null, .int 0, .null, .null, .int 0])) := by rw [eM282, mu_ne _ _ (ne_fresh hh280 fq281)]; exact hh280
  have hh298 : M282 q281 = some (irow (kc 0) 60 (fun _ => 0)) := by rw [eM282]; exact mu_self _ _ _
  refine m_putF (ref := "CardPortModel") (C := RX8) (T := TX8) (N := 25) (ci := 9) X Y htX8_init_wsX801 tyX8 tyX8_ok nmX8 hin hh297 rfl 18 (by decide) kwX8_init_20 rfl rfl rfl (v := .ref q281) rfl rfl (Nat.le_of_ble_eq_true rfl) dX8_init_119 (fun H locs Y => ?_)
  obtain ⟨M299, eM299⟩ : ∃ zz9 : Mp, zz9 = mu M282 h0 (.inr (9, [.int 0, .ref q1, .ref q8, .ref q17, .int 0, .ref q28, .ref q41, .ref q56, .ref q73, .ref q92, .ref q113, .int 0, .ref q136, .ref q161, .ref q188, .ref q217, .int 0, .ref q248, .ref q281, .null, .null, .int 0, .null, .null, .int 0])) := ⟨_, rfl⟩
  replace Y : mY D A M299 s H locs := by rw [eM299]; exact Y
  have hh300 : M299 q1 = some (irow (kc 0) 8 (fun _ => 0)) := by rw [eM299, mu_ne _ _ (Ne.symm (ne_fresh hm fq1))]; exact hh283
  have hh301 : M299 q8 = some (irow (kc 0) 3 (fun _ => 0)) := by rw [eM299, mu_ne _ _ (Ne.symm (ne_fresh hh7 fq8))]; exact hh284
  have hh302 : M299 q17 = some (irow (kc 0) 3 (fun _ => 0)) := by rw [eM299, mu_ne _ _ (Ne.symm (ne_fresh hh16 fq17))]; exact hh285
  have hh303 : M299 q28 = some (irow (kc 0) 60 (fun _ => 0)) := by rw [eM299, mu_ne _ _ (Ne.symm (ne_fresh hh27 fq28))]; exact hh286
  have hh304 : M299 q41 = some (irow (kc 0) 60 (fun _ => 0)) := by rw [eM299, mu_ne _ _ (Ne.symm (ne_fresh hh40 fq41))]; exact hh287
  have hh305 : M299 q56 = some (irow (kc 0) 60 (fun _ => 0)) := by rw [eM299, mu_ne _ _ (Ne.symm (ne_fresh hh55 fq56))]; exact hh288
  have hh306 : M299 q73 = some (irow (kc 0) 60 (fun _ => 0)) := by rw [eM299, mu_ne _ _ (Ne.symm (ne_fresh hh72 fq73))]; exact hh289
  have hh307 : M299 q92 = some (irow (kc 0) 60 (fun _ => 0)) := by rw [eM299, mu_ne _ _ (Ne.symm (ne_fresh hh91 fq92))]; exact hh290
  have hh308 : M299 q113 = some (irow (kc 2) 60 (fun _ => 0)) := by rw [eM299, mu_ne _ _ (Ne.symm (ne_fresh hh112 fq113))]; exact hh291
  have hh309 : M299 q136 = some (irow (kc 0) 100 (fun _ => 0)) := by rw [eM299, mu_ne _ _ (Ne.symm (ne_fresh hh135 fq136))]; exact hh292
  have hh310 : M299 q161 = some (irow (kc 0) 100 (fun _ => 0)) := by rw [eM299, mu_ne _ _ (Ne.symm (ne_fresh hh160 fq161))]; exact hh293
  have hh311 : M299 q188 = some (irow (kc 0) 100 (fun _ => 0)) := by rw [eM299, mu_ne _ _ (Ne.symm (ne_fresh hh187 fq188))]; exact hh294
  have hh312 : M299 q217 = some (irow (kc 0) 100 (fun _ => 0)) := by rw [eM299, mu_ne _ _ (Ne.symm (ne_fresh hh216 fq217))]; exact hh295
  have hh313 : M299 q248 = some (irow (kc 0) 60 (fun _ => 0)) := by rw [eM299, mu_ne _ _ (Ne.symm (ne_fresh hh247 fq248))]; exact hh296
  have hh314 : M299 q281 = some (irow (kc 0) 60 (fun _ => 0)) := by rw [eM299, mu_ne _ _ (Ne.symm (ne_fresh hh280 fq281))]; exact hh298
  have hh315 : M299 h0 = some (.inr (9, [.int 0, .ref q1, .ref q8, .ref q17, .int 0, .ref q28, .ref q41, .ref q56, .ref q73, .ref q92, .ref q113, .int 0, .ref q136, .ref q161, .ref q188, .ref q217, .int 0, .ref q248, .ref q281, .null, .null, .int 0, .null, .null, .int 0])) := by rw [eM299]; exact mu_self _ _ _
  refine lv_aload_n hx hb dX8_init_122 rfl (lv_at hl 0 rfl) ?_
  refine n_bipush hx hb 60 dX8_init_123 (by decide) ?_
  refine m_newa (atype := .int) X Y hA 0 rfl rfl kwX8_init_4 60 (60, .inl (fun _ => 0)) (fun _ => rfl) (by decide) (by decide) (by decide) (by decide) (by decide) dX8_init_125 (fun q316 H fq316 Y => ?_)
  obtain ⟨M317, eM317⟩ : ∃ zz9 : Mp, zz9 = mu M299 q316 (irow (kc 0) 60 (fun _ => 0)) := ⟨_, rfl⟩
  replace Y : mY D A M317 s H locs := by rw [eM317]; exact Y
  have hh318 : M317 q1 = some (irow (kc 0) 8 (fun _ => 0)) := by rw [eM317, mu_ne _ _ (ne_fresh hh300 fq316)]; exact hh300
  have hh319 : M317 q8 = some (irow (kc 0) 3 (fun _ => 0)) := by rw [eM317, mu_ne _ _ (ne_fresh hh301 fq316)]; exact hh301
  have hh320 : M317 q17 = some (irow (kc 0) 3 (fun _ => 0)) := by rw [eM317, mu_ne _ _ (ne_fresh hh302 fq316)]; exact hh302
  have hh321 : M317 q28 = some (irow (kc 0) 60 (fun _ => 0)) := by rw [eM317, mu_ne _ _ (ne_fresh hh303 fq316)]; exact hh303
  have hh322 : M317 q41 = some (irow (kc 0) 60 (fun _ => 0)) := by rw [eM317, mu_ne _ _ (ne_fresh hh304 fq316)]; exact hh304
  have hh323 : M317 q56 = some (irow (kc 0) 60 (fun _ => 0)) := by rw [eM317, mu_ne _ _ (ne_fresh hh305 fq316)]; exact hh305
  have hh324 : M317 q73 = some (irow (kc 0) 60 (fun _ => 0)) := by rw [eM317, mu_ne _ _ (ne_fresh hh306 fq316)]; exact hh306
  have hh325 : M317 q92 = some (irow (kc 0) 60 (fun _ => 0)) := by rw [eM317, mu_ne _ _ (ne_fresh hh307 fq316)]; exact hh307
  have hh326 : M317 q113 = some (irow (kc 2) 60 (fun _ => 0)) := by rw [eM317, mu_ne _ _ (ne_fresh hh308 fq316)]; exact hh308
  have hh327 : M317 q136 = some (irow (kc 0) 100 (fun _ => 0)) := by rw [eM317, mu_ne _ _ (ne_fresh hh309 fq316)]; exact hh309
  have hh328 : M317 q161 = some (irow (kc 0) 100 (fun _ => 0)) := by rw [eM317, mu_ne _ _ (ne_fresh hh310 fq316)]; exact hh310
  have hh329 : M317 q188 = some (irow (kc 0) 100 (fun _ => 0)) := by rw [eM317, mu_ne _ _ (ne_fresh hh311 fq316)]; exact hh311
  have hh330 : M317 q217 = some (irow (kc 0) 100 (fun _ => 0)) := by rw [eM317, mu_ne _ _ (ne_fresh hh312 fq316)]; exact hh312
  have hh331 : M317 q248 = some (irow (kc 0) 60 (fun _ => 0)) := by rw [eM317, mu_ne _ _ (ne_fresh hh313 fq316)]; exact hh313
  have hh332 : M317 q281 = some (irow (kc 0) 60 (fun _ => 0)) := by rw [eM317, mu_ne _ _ (ne_fresh hh314 fq316)]; exact hh314
  have hh333 : M317 h0 = some (.inr (9, [.int 0, .ref q1, .ref q8, .ref q17, .int 0, .ref q28, .ref q41, .ref q56, .ref q73, .ref q92, .ref q113, .int 0, .ref q136, .ref q161, .ref q188, .ref q217, .int 0, .ref q248, .ref q281, .null, .null, .int 0, .null, .null, .int 0])) := by rw [eM317, mu_ne _ _ (ne_fresh hh315 fq316)]; exact hh315
  have hh334 : M317 q316 = some (irow (kc 0) 60 (fun _ => 0)) := by rw [eM317]; exact mu_self _ _ _
  refine m_putF (ref := "CardPortModel") (C := RX8) (T := TX8) (N := 25) (ci := 9) X Y htX8_init_wsX801 tyX8 tyX8_ok nmX8 hin hh333 rfl 19 (by decide) kwX8_init_21 rfl rfl rfl (v := .ref q316) rfl rfl (Nat.le_of_ble_eq_true rfl) dX8_init_127 (fun H locs Y => ?_)
  obtain ⟨M335, eM335⟩ : ∃ zz9 : Mp, zz9 = mu M317 h0 (.inr (9, [.int 0, .ref q1, .ref q8, .ref q17, .int 0, .ref q28, .ref q41, .ref q56, .ref q73, .ref q92, .ref q113, .int 0, .ref q136, .ref q161, .ref q188, .ref q217, .int 0, .ref q248, .ref q281, .ref q316, .null, .int 0, .null, .null, .int 0])) := ⟨_, rfl⟩
  replace Y : mY D A M335 s H locs := by rw [eM335]; exact Y
  have hh336 : M335 q1 = some (irow (kc 0) 8 (fun _ => 0)) := by rw [eM335, mu_ne _ _ (Ne.symm (ne_fresh hm fq1))]; exact hh318
  have hh337 : M335 q8 = some (irow (kc 0) 3 (fun _ => 0)) := by rw [eM335, mu_ne _ _ (Ne.symm (ne_fresh hh7 fq8))]; exact hh319
  have hh338 : M335 q17 = some (irow (kc 0) 3 (fun _ => 0)) := by rw [eM335, mu_ne _ _ (Ne.symm (ne_fresh hh16 fq17))]; exact hh320
  have hh339 : M335 q28 = some (irow (kc 0) 60 (fun _ => 0)) := by rw [eM335, mu_ne _ _ (Ne.symm (ne_fresh hh27 fq28))]; exact hh321
  have hh340 : M335 q41 = some (irow (kc 0) 60 (fun _ => 0)) := by rw [eM335, mu_ne _ _ (Ne.symm (ne_fresh hh40 fq41))]; exact hh322
  have hh341 : M335 q56 = some (irow (kc 0) 60 (fun _ => 0)) := by rw [eM335, mu_ne _ _ (Ne.symm (ne_fresh hh55 fq56))]; exact hh323
  have hh342 : M335 q73 = some (irow (kc 0) 60 (fun _ => 0)) := by rw [eM335, mu_ne _ _ (Ne.symm (ne_fresh hh72 fq73))]; exact hh324
  have hh343 : M335 q92 = some (irow (kc 0) 60 (fun _ => 0)) := by rw [eM335, mu_ne _ _ (Ne.symm (ne_fresh hh91 fq92))]; exact hh325
  have hh344 : M335 q113 = some (irow (kc 2) 60 (fun _ => 0)) := by rw [eM335, mu_ne _ _ (Ne.symm (ne_fresh hh112 fq113))]; exact hh326
  have hh345 : M335 q136 = some (irow (kc 0) 100 (fun _ => 0)) := by rw [eM335, mu_ne _ _ (Ne.symm (ne_fresh hh135 fq136))]; exact hh327
  have hh346 : M335 q161 = some (irow (kc 0) 100 (fun _ => 0)) := by rw [eM335, mu_ne _ _ (Ne.symm (ne_fresh hh160 fq161))]; exact hh328
  have hh347 : M335 q188 = some (irow (kc 0) 100 (fun _ => 0)) := by rw [eM335, mu_ne _ _ (Ne.symm (ne_fresh hh187 fq188))]; exact hh329
  have hh348 : M335 q217 = some (irow (kc 0) 100 (fun _ => 0)) := by rw [eM335, mu_ne _ _ (Ne.symm (ne_fresh hh216 fq217))]; exact hh330
  have hh349 : M335 q248 = some (irow (kc 0) 60 (fun _ => 0)) := by rw [eM335, mu_ne _ _ (Ne.symm (ne_fresh hh247 fq248))]; exact hh331
  have hh350 : M335 q281 = some (irow (kc 0) 60 (fun _ => 0)) := by rw [eM335, mu_ne _ _ (Ne.symm (ne_fresh hh280 fq281))]; exact hh332
  have hh351 : M335 q316 = some (irow (kc 0) 60 (fun _ => 0)) := by rw [eM335, mu_ne _ _ (Ne.symm (ne_fresh hh315 fq316))]; exact hh334
  have hh352 : M335 h0 = some (.inr (9, [.int 0, .ref q1, .ref q8, .ref q17, .int 0, .ref q28, .ref q41, .ref q56, .ref q73, .ref q92, .ref q113, .int 0, .ref q136, .ref q161, .ref q188, .ref q217, .int 0, .ref q248, .ref q281, .ref q316, .null, .int 0, .null, .null, .int 0])) := by rw [eM335]; exact mu_self _ _ _
  refine lv_aload_n hx hb dX8_init_130 rfl (lv_at hl 0 rfl) ?_
  refine n_bipush hx hb 60 dX8_init_131 (by decide) ?_
  refine m_newa (atype := .int) X Y hA 0 rfl rfl kwX8_init_4 60 (60, .inl (fun _ => 0)) (fun _ => rfl) (by decide) (by decide) (by decide) (by decide) (by decide) dX8_init_133 (fun q353 H fq353 Y => ?_)
  obtain ⟨M354, eM354⟩ : ∃ zz9 : Mp, zz9 = mu M335 q353 (irow (kc 0) 60 (fun _ => 0)) := ⟨_, rfl⟩
  replace Y : mY D A M354 s H locs := by rw [eM354]; exact Y
  have hh355 : M354 q1 = some (irow (kc 0) 8 (fun _ => 0)) := by rw [eM354, mu_ne _ _ (ne_fresh hh336 fq353)]; exact hh336
  have hh356 : M354 q8 = some (irow (kc 0) 3 (fun _ => 0)) := by rw [eM354, mu_ne _ _ (ne_fresh hh337 fq353)]; exact hh337
  have hh357 : M354 q17 = some (irow (kc 0) 3 (fun _ => 0)) := by rw [eM354, mu_ne _ _ (ne_fresh hh338 fq353)]; exact hh338
  have hh358 : M354 q28 = some (irow (kc 0) 60 (fun _ => 0)) := by rw [eM354, mu_ne _ _ (ne_fresh hh339 fq353)]; exact hh339
  have hh359 : M354 q41 = some (irow (kc 0) 60 (fun _ => 0)) := by rw [eM354, mu_ne _ _ (ne_fresh hh340 fq353)]; exact hh340
  have hh360 : M354 q56 = some (irow (kc 0) 60 (fun _ => 0)) := by rw [eM354, mu_ne _ _ (ne_fresh hh341 fq353)]; exact hh341
  have hh361 : M354 q73 = some (irow (kc 0) 60 (fun _ => 0)) := by rw [eM354, mu_ne _ _ (ne_fresh hh342 fq353)]; exact hh342
  have hh362 : M354 q92 = some (irow (kc 0) 60 (fun _ => 0)) := by rw [eM354, mu_ne _ _ (ne_fresh hh343 fq353)]; exact hh343
  have hh363 : M354 q113 = some (irow (kc 2) 60 (fun _ => 0)) := by rw [eM354, mu_ne _ _ (ne_fresh hh344 fq353)]; exact hh344
  have hh364 : M354 q136 = some (irow (kc 0) 100 (fun _ => 0)) := by rw [eM354, mu_ne _ _ (ne_fresh hh345 fq353)]; exact hh345
  have hh365 : M354 q161 = some (irow (kc 0) 100 (fun _ => 0)) := by rw [eM354, mu_ne _ _ (ne_fresh hh346 fq353)]; exact hh346
  have hh366 : M354 q188 = some (irow (kc 0) 100 (fun _ => 0)) := by rw [eM354, mu_ne _ _ (ne_fresh hh347 fq353)]; exact hh347
  have hh367 : M354 q217 = some (irow (kc 0) 100 (fun _ => 0)) := by rw [eM354, mu_ne _ _ (ne_fresh hh348 fq353)]; exact hh348
  have hh368 : M354 q248 = some (irow (kc 0) 60 (fun _ => 0)) := by rw [eM354, mu_ne _ _ (ne_fresh hh349 fq353)]; exact hh349
  have hh369 : M354 q281 = some (irow (kc 0) 60 (fun _ => 0)) := by rw [eM354, mu_ne _ _ (ne_fresh hh350 fq353)]; exact hh350
  have hh370 : M354 q316 = some (irow (kc 0) 60 (fun _ => 0)) := by rw [eM354, mu_ne _ _ (ne_fresh hh351 fq353)]; exact hh351
  have hh371 : M354 h0 = some (.inr (9, [.int 0, .ref q1, .ref q8, .ref q17, .int 0, .ref q28, .ref q41, .ref q56, .ref q73, .ref q92, .ref q113, .int 0, .ref q136, .ref q161, .ref q188, .ref q217, .int 0, .ref q248, .ref q281, .ref q316, .null, .int 0, .null, .null, .int 0])) := by rw [eM354, mu_ne _ _ (ne_fresh hh352 fq353)]; exact hh352
  have hh372 : M354 q353 = some (irow (kc 0) 60 (fun _ => 0)) := by rw [eM354]; exact mu_self _ _ _
  refine m_putF (ref := "CardPortModel") (C := RX8) (T := TX8) (N := 25) (ci := 9) X Y htX8_init_wsX801 tyX8 tyX8_ok nmX8 hin hh371 rfl 20 (by decide) kwX8_init_22 rfl rfl rfl (v := .ref q353) rfl rfl (Nat.le_of_ble_eq_true rfl) dX8_init_135 (fun H locs Y => ?_)
  obtain ⟨M373, eM373⟩ : ∃ zz9 : Mp, zz9 = mu M354 h0 (.inr (9, [.int 0, .ref q1, .ref q8, .ref q17, .int 0, .ref q28, .ref q41, .ref q56, .ref q73, .ref q92, .ref q113, .int 0, .ref q136, .ref q161, .ref q188, .ref q217, .int 0, .ref q248, .ref q281, .ref q316, .ref q353, .int 0, .null, .null, .int 0])) := ⟨_, rfl⟩
  replace Y : mY D A M373 s H locs := by rw [eM373]; exact Y
  have hh374 : M373 q1 = some (irow (kc 0) 8 (fun _ => 0)) := by rw [eM373, mu_ne _ _ (Ne.symm (ne_fresh hm fq1))]; exact hh355
  have hh375 : M373 q8 = some (irow (kc 0) 3 (fun _ => 0)) := by rw [eM373, mu_ne _ _ (Ne.symm (ne_fresh hh7 fq8))]; exact hh356
  have hh376 : M373 q17 = some (irow (kc 0) 3 (fun _ => 0)) := by rw [eM373, mu_ne _ _ (Ne.symm (ne_fresh hh16 fq17))]; exact hh357
  have hh377 : M373 q28 = some (irow (kc 0) 60 (fun _ => 0)) := by rw [eM373, mu_ne _ _ (Ne.symm (ne_fresh hh27 fq28))]; exact hh358
  have hh378 : M373 q41 = some (irow (kc 0) 60 (fun _ => 0)) := by rw [eM373, mu_ne _ _ (Ne.symm (ne_fresh hh40 fq41))]; exact hh359
  have hh379 : M373 q56 = some (irow (kc 0) 60 (fun _ => 0)) := by rw [eM373, mu_ne _ _ (Ne.symm (ne_fresh hh55 fq56))]; exact hh360
  have hh380 : M373 q73 = some (irow (kc 0) 60 (fun _ => 0)) := by rw [eM373, mu_ne _ _ (Ne.symm (ne_fresh hh72 fq73))]; exact hh361
  have hh381 : M373 q92 = some (irow (kc 0) 60 (fun _ => 0)) := by rw [eM373, mu_ne _ _ (Ne.symm (ne_fresh hh91 fq92))]; exact hh362
  have hh382 : M373 q113 = some (irow (kc 2) 60 (fun _ => 0)) := by rw [eM373, mu_ne _ _ (Ne.symm (ne_fresh hh112 fq113))]; exact hh363
  have hh383 : M373 q136 = some (irow (kc 0) 100 (fun _ => 0)) := by rw [eM373, mu_ne _ _ (Ne.symm (ne_fresh hh135 fq136))]; exact hh364
  have hh384 : M373 q161 = some (irow (kc 0) 100 (fun _ => 0)) := by rw [eM373, mu_ne _ _ (Ne.symm (ne_fresh hh160 fq161))]; exact hh365
  have hh385 : M373 q188 = some (irow (kc 0) 100 (fun _ => 0)) := by rw [eM373, mu_ne _ _ (Ne.symm (ne_fresh hh187 fq188))]; exact hh366
  have hh386 : M373 q217 = some (irow (kc 0) 100 (fun _ => 0)) := by rw [eM373, mu_ne _ _ (Ne.symm (ne_fresh hh216 fq217))]; exact hh367
  have hh387 : M373 q248 = some (irow (kc 0) 60 (fun _ => 0)) := by rw [eM373, mu_ne _ _ (Ne.symm (ne_fresh hh247 fq248))]; exact hh368
  have hh388 : M373 q281 = some (irow (kc 0) 60 (fun _ => 0)) := by rw [eM373, mu_ne _ _ (Ne.symm (ne_fresh hh280 fq281))]; exact hh369
  have hh389 : M373 q316 = some (irow (kc 0) 60 (fun _ => 0)) := by rw [eM373, mu_ne _ _ (Ne.symm (ne_fresh hh315 fq316))]; exact hh370
  have hh390 : M373 q353 = some (irow (kc 0) 60 (fun _ => 0)) := by rw [eM373, mu_ne _ _ (Ne.symm (ne_fresh hh352 fq353))]; exact hh372
  have hh391 : M373 h0 = some (.inr (9, [.int 0, .ref q1, .ref q8, .ref q17, .int 0, .ref q28, .ref q41, .ref q56, .ref q73, .ref q92, .ref q113, .int 0, .ref q136, .ref q161, .ref q188, .ref q217, .int 0, .ref q248, .ref q281, .ref q316, .ref q353, .int 0, .null, .null, .int 0])) := by rw [eM373]; exact mu_self _ _ _
  refine lv_aload_n hx hb dX8_init_138 rfl (lv_at hl 0 rfl) ?_
  refine n_iconst hx hb 4 dX8_init_139 (by decide) ?_
  refine m_newa (atype := .long) X Y hA 1 rfl rfl kwX8_init_23 4 (4, .inr (.inl (fun _ => 0))) (fun _ => rfl) (by decide) (by decide) (by decide) (by decide) (by decide) dX8_init_140 (fun q392 H fq392 Y => ?_)
  obtain ⟨M393, eM393⟩ : ∃ zz9 : Mp, zz9 = mu M373 q392 (lrow (kc 1) 4 (fun _ => 0)) := ⟨_, rfl⟩
  replace Y : mY D A M393 s H locs := by rw [eM393]; exact Y
  have hh394 : M393 q1 = some (irow (kc 0) 8 (fun _ => 0)) := by rw [eM393, mu_ne _ _ (ne_fresh hh374 fq392)]; exact hh374
  have hh395 : M393 q8 = some (irow (kc 0) 3 (fun _ => 0)) := by rw [eM393, mu_ne _ _ (ne_fresh hh375 fq392)]; exact hh375
  have hh396 : M393 q17 = some (irow (kc 0) 3 (fun _ => 0)) := by rw [eM393, mu_ne _ _ (ne_fresh hh376 fq392)]; exact hh376
  have hh397 : M393 q28 = some (irow (kc 0) 60 (fun _ => 0)) := by rw [eM393, mu_ne _ _ (ne_fresh hh377 fq392)]; exact hh377
  have hh398 : M393 q41 = some (irow (kc 0) 60 (fun _ => 0)) := by rw [eM393, mu_ne _ _ (ne_fresh hh378 fq392)]; exact hh378
  have hh399 : M393 q56 = some (irow (kc 0) 60 (fun _ => 0)) := by rw [eM393, mu_ne _ _ (ne_fresh hh379 fq392)]; exact hh379
  have hh400 : M393 q73 = some (irow (kc 0) 60 (fun _ => 0)) := by rw [eM393, mu_ne _ _ (ne_fresh hh380 fq392)]; exact hh380
  have hh401 : M393 q92 = some (irow (kc 0) 60 (fun _ => 0)) := by rw [eM393, mu_ne _ _ (ne_fresh hh381 fq392)]; exact hh381
  have hh402 : M393 q113 = some (irow (kc 2) 60 (fun _ => 0)) := by rw [eM393, mu_ne _ _ (ne_fresh hh382 fq392)]; exact hh382
  have hh403 : M393 q136 = some (irow (kc 0) 100 (fun _ => 0)) := by rw [eM393, mu_ne _ _ (ne_fresh hh383 fq392)]; exact hh383
  have hh404 : M393 q161 = some (irow (kc 0) 100 (fun _ => 0)) := by rw [eM393, mu_ne _ _ (ne_fresh hh384 fq392)]; exact hh384
  have hh405 : M393 q188 = some (irow (kc 0) 100 (fun _ => 0)) := by rw [eM393, mu_ne _ _ (ne_fresh hh385 fq392)]; exact hh385
  have hh406 : M393 q217 = some (irow (kc 0) 100 (fun _ => 0)) := by rw [eM393, mu_ne _ _ (ne_fresh hh386 fq392)]; exact hh386
  have hh407 : M393 q248 = some (irow (kc 0) 60 (fun _ => 0)) := by rw [eM393, mu_ne _ _ (ne_fresh hh387 fq392)]; exact hh387
  have hh408 : M393 q281 = some (irow (kc 0) 60 (fun _ => 0)) := by rw [eM393, mu_ne _ _ (ne_fresh hh388 fq392)]; exact hh388
  have hh409 : M393 q316 = some (irow (kc 0) 60 (fun _ => 0)) := by rw [eM393, mu_ne _ _ (ne_fresh hh389 fq392)]; exact hh389
  have hh410 : M393 q353 = some (irow (kc 0) 60 (fun _ => 0)) := by rw [eM393, mu_ne _ _ (ne_fresh hh390 fq392)]; exact hh390
  have hh411 : M393 h0 = some (.inr (9, [.int 0, .ref q1, .ref q8, .ref q17, .int 0, .ref q28, .ref q41, .ref q56, .ref q73, .ref q92, .ref q113, .int 0, .ref q136, .ref q161, .ref q188, .ref q217, .int 0, .ref q248, .ref q281, .ref q316, .ref q353, .int 0, .null, .null, .int 0])) := by rw [eM393, mu_ne _ _ (ne_fresh hh391 fq392)]; exact hh391
  have hh412 : M393 q392 = some (lrow (kc 1) 4 (fun _ => 0)) := by rw [eM393]; exact mu_self _ _ _
  refine m_putF (ref := "CardPortModel") (C := RX8) (T := TX8) (N := 25) (ci := 9) X Y htX8_init_wsX801 tyX8 tyX8_ok nmX8 hin hh411 rfl 22 (by decide) kwX8_init_24 rfl rfl rfl (v := .ref q392) rfl rfl (Nat.le_of_ble_eq_true rfl) dX8_init_142 (fun H locs Y => ?_)
  obtain ⟨M413, eM413⟩ : ∃ zz9 : Mp, zz9 = mu M393 h0 (.inr (9, [.int 0, .ref q1, .ref q8, .ref q17, .int 0, .ref q28, .ref q41, .ref q56, .ref q73, .ref q92, .ref q113, .int 0, .ref q136, .ref q161, .ref q188, .ref q217, .int 0, .ref q248, .ref q281, .ref q316, .ref q353, .int 0, .ref q392, .null, .int 0])) := ⟨_, rfl⟩
  replace Y : mY D A M413 s H locs := by rw [eM413]; exact Y
  have hh414 : M413 q1 = some (irow (kc 0) 8 (fun _ => 0)) := by rw [eM413, mu_ne _ _ (Ne.symm (ne_fresh hm fq1))]; exact hh394
  have hh415 : M413 q8 = some (irow (kc 0) 3 (fun _ => 0)) := by rw [eM413, mu_ne _ _ (Ne.symm (ne_fresh hh7 fq8))]; exact hh395
  have hh416 : M413 q17 = some (irow (kc 0) 3 (fun _ => 0)) := by rw [eM413, mu_ne _ _ (Ne.symm (ne_fresh hh16 fq17))]; exact hh396
  have hh417 : M413 q28 = some (irow (kc 0) 60 (fun _ => 0)) := by rw [eM413, mu_ne _ _ (Ne.symm (ne_fresh hh27 fq28))]; exact hh397
  have hh418 : M413 q41 = some (irow (kc 0) 60 (fun _ => 0)) := by rw [eM413, mu_ne _ _ (Ne.symm (ne_fresh hh40 fq41))]; exact hh398
  have hh419 : M413 q56 = some (irow (kc 0) 60 (fun _ => 0)) := by rw [eM413, mu_ne _ _ (Ne.symm (ne_fresh hh55 fq56))]; exact hh399
  have hh420 : M413 q73 = some (irow (kc 0) 60 (fun _ => 0)) := by rw [eM413, mu_ne _ _ (Ne.symm (ne_fresh hh72 fq73))]; exact hh400
  have hh421 : M413 q92 = some (irow (kc 0) 60 (fun _ => 0)) := by rw [eM413, mu_ne _ _ (Ne.symm (ne_fresh hh91 fq92))]; exact hh401
  have hh422 : M413 q113 = some (irow (kc 2) 60 (fun _ => 0)) := by rw [eM413, mu_ne _ _ (Ne.symm (ne_fresh hh112 fq113))]; exact hh402
  have hh423 : M413 q136 = some (irow (kc 0) 100 (fun _ => 0)) := by rw [eM413, mu_ne _ _ (Ne.symm (ne_fresh hh135 fq136))]; exact hh403
  have hh424 : M413 q161 = some (irow (kc 0) 100 (fun _ => 0)) := by rw [eM413, mu_ne _ _ (Ne.symm (ne_fresh hh160 fq161))]; exact hh404
  have hh425 : M413 q188 = some (irow (kc 0) 100 (fun _ => 0)) := by rw [eM413, mu_ne _ _ (Ne.symm (ne_fresh hh187 fq188))]; exact hh405
  have hh426 : M413 q217 = some (irow (kc 0) 100 (fun _ => 0)) := by rw [eM413, mu_ne _ _ (Ne.symm (ne_fresh hh216 fq217))]; exact hh406
  have hh427 : M413 q248 = some (irow (kc 0) 60 (fun _ => 0)) := by rw [eM413, mu_ne _ _ (Ne.symm (ne_fresh hh247 fq248))]; exact hh407
  have hh428 : M413 q281 = some (irow (kc 0) 60 (fun _ => 0)) := by rw [eM413, mu_ne _ _ (Ne.symm (ne_fresh hh280 fq281))]; exact hh408
  have hh429 : M413 q316 = some (irow (kc 0) 60 (fun _ => 0)) := by rw [eM413, mu_ne _ _ (Ne.symm (ne_fresh hh315 fq316))]; exact hh409
  have hh430 : M413 q353 = some (irow (kc 0) 60 (fun _ => 0)) := by rw [eM413, mu_ne _ _ (Ne.symm (ne_fresh hh352 fq353))]; exact hh410
  have hh431 : M413 q392 = some (lrow (kc 1) 4 (fun _ => 0)) := by rw [eM413, mu_ne _ _ (Ne.symm (ne_fresh hh391 fq392))]; exact hh412
  have hh432 : M413 h0 = some (.inr (9, [.int 0, .ref q1, .ref q8, .ref q17, .int 0, .ref q28, .ref q41, .ref q56, .ref q73, .ref q92, .ref q113, .int 0, .ref q136, .ref q161, .ref q188, .ref q217, .int 0, .ref q248, .ref q281, .ref q316, .ref q353, .int 0, .ref q392, .null, .int 0])) := by rw [eM413]; exact mu_self _ _ _
  refine lv_aload_n hx hb dX8_init_145 rfl (lv_at hl 0 rfl) ?_
  refine n_iconst hx hb 4 dX8_init_146 (by decide) ?_
  refine m_newa (atype := .long) X Y hA 1 rfl rfl kwX8_init_23 4 (4, .inr (.inl (fun _ => 0))) (fun _ => rfl) (by decide) (by decide) (by decide) (by decide) (by decide) dX8_init_147 (fun q433 H fq433 Y => ?_)
  obtain ⟨M434, eM434⟩ : ∃ zz9 : Mp, zz9 = mu M413 q433 (lrow (kc 1) 4 (fun _ => 0)) := ⟨_, rfl⟩
  replace Y : mY D A M434 s H locs := by rw [eM434]; exact Y
  have hh435 : M434 q1 = some (irow (kc 0) 8 (fun _ => 0)) := by rw [eM434, mu_ne _ _ (ne_fresh hh414 fq433)]; exact hh414
  have hh436 : M434 q8 = some (irow (kc 0) 3 (fun _ => 0)) := by rw [eM434, mu_ne _ _ (ne_fresh hh415 fq433)]; exact hh415
  have hh437 : M434 q17 = some (irow (kc 0) 3 (fun _ => 0)) := by rw [eM434, mu_ne _ _ (ne_fresh hh416 fq433)]; exact hh416
  have hh438 : M434 q28 = some (irow (kc 0) 60 (fun _ => 0)) := by rw [eM434, mu_ne _ _ (ne_fresh hh417 fq433)]; exact hh417
  have hh439 : M434 q41 = some (irow (kc 0) 60 (fun _ => 0)) := by rw [eM434, mu_ne _ _ (ne_fresh hh418 fq433)]; exact hh418
  have hh440 : M434 q56 = some (irow (kc 0) 60 (fun _ => 0)) := by rw [eM434, mu_ne _ _ (ne_fresh hh419 fq433)]; exact hh419
  have hh441 : M434 q73 = some (irow (kc 0) 60 (fun _ => 0)) := by rw [eM434, mu_ne _ _ (ne_fresh hh420 fq433)]; exact hh420
  have hh442 : M434 q92 = some (irow (kc 0) 60 (fun _ => 0)) := by rw [eM434, mu_ne _ _ (ne_fresh hh421 fq433)]; exact hh421
  have hh443 : M434 q113 = some (irow (kc 2) 60 (fun _ => 0)) := by rw [eM434, mu_ne _ _ (ne_fresh hh422 fq433)]; exact hh422
  have hh444 : M434 q136 = some (irow (kc 0) 100 (fun _ => 0)) := by rw [eM434, mu_ne _ _ (ne_fresh hh423 fq433)]; exact hh423
  have hh445 : M434 q161 = some (irow (kc 0) 100 (fun _ => 0)) := by rw [eM434, mu_ne _ _ (ne_fresh hh424 fq433)]; exact hh424
  have hh446 : M434 q188 = some (irow (kc 0) 100 (fun _ => 0)) := by rw [eM434, mu_ne _ _ (ne_fresh hh425 fq433)]; exact hh425
  have hh447 : M434 q217 = some (irow (kc 0) 100 (fun _ => 0)) := by rw [eM434, mu_ne _ _ (ne_fresh hh426 fq433)]; exact hh426
  have hh448 : M434 q248 = some (irow (kc 0) 60 (fun _ => 0)) := by rw [eM434, mu_ne _ _ (ne_fresh hh427 fq433)]; exact hh427
  have hh449 : M434 q281 = some (irow (kc 0) 60 (fun _ => 0)) := by rw [eM434, mu_ne _ _ (ne_fresh hh428 fq433)]; exact hh428
  have hh450 : M434 q316 = some (irow (kc 0) 60 (fun _ => 0)) := by rw [eM434, mu_ne _ _ (ne_fresh hh429 fq433)]; exact hh429
  have hh451 : M434 q353 = some (irow (kc 0) 60 (fun _ => 0)) := by rw [eM434, mu_ne _ _ (ne_fresh hh430 fq433)]; exact hh430
  have hh452 : M434 q392 = some (lrow (kc 1) 4 (fun _ => 0)) := by rw [eM434, mu_ne _ _ (ne_fresh hh431 fq433)]; exact hh431
  have hh453 : M434 h0 = some (.inr (9, [.int 0, .ref q1, .ref q8, .ref q17, .int 0, .ref q28, .ref q41, .ref q56, .ref q73, .ref q92, .ref q113, .int 0, .ref q136, .ref q161, .ref q188, .ref q217, .int 0, .ref q248, .ref q281, .ref q316, .ref q353, .int 0, .ref q392, .null, .int 0])) := by rw [eM434, mu_ne _ _ (ne_fresh hh432 fq433)]; exact hh432
  have hh454 : M434 q433 = some (lrow (kc 1) 4 (fun _ => 0)) := by rw [eM434]; exact mu_self _ _ _
  refine m_putF (ref := "CardPortModel") (C := RX8) (T := TX8) (N := 25) (ci := 9) X Y htX8_init_wsX801 tyX8 tyX8_ok nmX8 hin hh453 rfl 23 (by decide) kwX8_init_25 rfl rfl rfl (v := .ref q433) rfl rfl (Nat.le_of_ble_eq_true rfl) dX8_init_149 (fun H locs Y => ?_)
  obtain ⟨M455, eM455⟩ : ∃ zz9 : Mp, zz9 = mu M434 h0 (.inr (9, [.int 0, .ref q1, .ref q8, .ref q17, .int 0, .ref q28, .ref q41, .ref q56, .ref q73, .ref q92, .ref q113, .int 0, .ref q136, .ref q161, .ref q188, .ref q217, .int 0, .ref q248, .ref q281, .ref q316, .ref q353, .int 0, .ref q392, .ref q433, .int 0])) := ⟨_, rfl⟩
  replace Y : mY D A M455 s H locs := by rw [eM455]; exact Y
  have hh456 : M455 q1 = some (irow (kc 0) 8 (fun _ => 0)) := by rw [eM455, mu_ne _ _ (Ne.symm (ne_fresh hm fq1))]; exact hh435
  have hh457 : M455 q8 = some (irow (kc 0) 3 (fun _ => 0)) := by rw [eM455, mu_ne _ _ (Ne.symm (ne_fresh hh7 fq8))]; exact hh436
  have hh458 : M455 q17 = some (irow (kc 0) 3 (fun _ => 0)) := by rw [eM455, mu_ne _ _ (Ne.symm (ne_fresh hh16 fq17))]; exact hh437
  have hh459 : M455 q28 = some (irow (kc 0) 60 (fun _ => 0)) := by rw [eM455, mu_ne _ _ (Ne.symm (ne_fresh hh27 fq28))]; exact hh438
  have hh460 : M455 q41 = some (irow (kc 0) 60 (fun _ => 0)) := by rw [eM455, mu_ne _ _ (Ne.symm (ne_fresh hh40 fq41))]; exact hh439
  have hh461 : M455 q56 = some (irow (kc 0) 60 (fun _ => 0)) := by rw [eM455, mu_ne _ _ (Ne.symm (ne_fresh hh55 fq56))]; exact hh440
  have hh462 : M455 q73 = some (irow (kc 0) 60 (fun _ => 0)) := by rw [eM455, mu_ne _ _ (Ne.symm (ne_fresh hh72 fq73))]; exact hh441
  have hh463 : M455 q92 = some (irow (kc 0) 60 (fun _ => 0)) := by rw [eM455, mu_ne _ _ (Ne.symm (ne_fresh hh91 fq92))]; exact hh442
  have hh464 : M455 q113 = some (irow (kc 2) 60 (fun _ => 0)) := by rw [eM455, mu_ne _ _ (Ne.symm (ne_fresh hh112 fq113))]; exact hh443
  have hh465 : M455 q136 = some (irow (kc 0) 100 (fun _ => 0)) := by rw [eM455, mu_ne _ _ (Ne.symm (ne_fresh hh135 fq136))]; exact hh444
  have hh466 : M455 q161 = some (irow (kc 0) 100 (fun _ => 0)) := by rw [eM455, mu_ne _ _ (Ne.symm (ne_fresh hh160 fq161))]; exact hh445
  have hh467 : M455 q188 = some (irow (kc 0) 100 (fun _ => 0)) := by rw [eM455, mu_ne _ _ (Ne.symm (ne_fresh hh187 fq188))]; exact hh446
  have hh468 : M455 q217 = some (irow (kc 0) 100 (fun _ => 0)) := by rw [eM455, mu_ne _ _ (Ne.symm (ne_fresh hh216 fq217))]; exact hh447
  have hh469 : M455 q248 = some (irow (kc 0) 60 (fun _ => 0)) := by rw [eM455, mu_ne _ _ (Ne.symm (ne_fresh hh247 fq248))]; exact hh448
  have hh470 : M455 q281 = some (irow (kc 0) 60 (fun _ => 0)) := by rw [eM455, mu_ne _ _ (Ne.symm (ne_fresh hh280 fq281))]; exact hh449
  have hh471 : M455 q316 = some (irow (kc 0) 60 (fun _ => 0)) := by rw [eM455, mu_ne _ _ (Ne.symm (ne_fresh hh315 fq316))]; exact hh450
  have hh472 : M455 q353 = some (irow (kc 0) 60 (fun _ => 0)) := by rw [eM455, mu_ne _ _ (Ne.symm (ne_fresh hh352 fq353))]; exact hh451
  have hh473 : M455 q392 = some (lrow (kc 1) 4 (fun _ => 0)) := by rw [eM455, mu_ne _ _ (Ne.symm (ne_fresh hh391 fq392))]; exact hh452
  have hh474 : M455 q433 = some (lrow (kc 1) 4 (fun _ => 0)) := by rw [eM455, mu_ne _ _ (Ne.symm (ne_fresh hh432 fq433))]; exact hh454
  have hh475 : M455 h0 = some (.inr (9, [.int 0, .ref q1, .ref q8, .ref q17, .int 0, .ref q28, .ref q41, .ref q56, .ref q73, .ref q92, .ref q113, .int 0, .ref q136, .ref q161, .ref q188, .ref q217, .int 0, .ref q248, .ref q281, .ref q316, .ref q353, .int 0, .ref q392, .ref q433, .int 0])) := by rw [eM455]; exact mu_self _ _ _
  refine n_iconst hx hb 0 dX8_init_152 (by decide) ?_
  refine lv_istore_n (lv' := [(1, .int (nI 0)), (0, .ref h0)]) hx hb dX8_init_153 rfl hl (by decide) rfl (fun ls hl => ?_)
  replace hl : lv_has ls 2 [(1, .int (nI 0)), (0, .ref h0)] := hl
  refine lv_iload_n hx hb dX8_init_154 rfl (lv_at hl 0 rfl) ?_
  refine n_iconst hx hb 3 dX8_init_155 (by decide) ?_
  refine n_icmp_ge hx hb 182 (by omega) (by omega) dX8_init_156 (by decide) (fun zq => absurd zq (by decide)) (fun _ => ?_)
  refine lv_aload_n hx hb dX8_init_159 rfl (lv_at hl 1 rfl) ?_
  refine m_get (ref := "CardPortModel") (C := RX8) (T := TX8) (N := 25) (ci := 9) X Y htX8_init_wsX801 hh475 rfl 2 (by decide) kwX8_init_6 rfl (v := .ref q8) rfl dX8_init_160 ?_
  refine lv_iload_n hx hb dX8_init_163 rfl (lv_at hl 0 rfl) ?_
  refine n_bipush hx hb 10 dX8_init_164 (by decide) ?_
  refine m_iast X Y hh457 (vp_in_nI (show 0 < 3 by decide) (by decide)) dX8_init_166 (fun H locs Y => ?_)
  rw [nI_cl (show 0 < 2147483648 by decide)] at Y
  obtain ⟨M476, eM476⟩ : ∃ zz9 : Mp, zz9 = mu M455 q8 (irow (kc 0) 3 (updI (fun _ => 0) 0 (nI 10))) := ⟨_, rfl⟩
  replace Y : mY D A M476 s H locs := by rw [eM476]; exact Y
  have hh477 : M476 q1 = some (irow (kc 0) 8 (fun _ => 0)) := by rw [eM476, mu_ne _ _ (ne_fresh hh6 fq8)]; exact hh456
  have hh478 : M476 q17 = some (irow (kc 0) 3 (fun _ => 0)) := by rw [eM476, mu_ne _ _ (Ne.symm (ne_fresh hh15 fq17))]; exact hh458
  have hh479 : M476 q28 = some (irow (kc 0) 60 (fun _ => 0)) := by rw [eM476, mu_ne _ _ (Ne.symm (ne_fresh hh25 fq28))]; exact hh459
  have hh480 : M476 q41 = some (irow (kc 0) 60 (fun _ => 0)) := by rw [eM476, mu_ne _ _ (Ne.symm (ne_fresh hh37 fq41))]; exact hh460
  have hh481 : M476 q56 = some (irow (kc 0) 60 (fun _ => 0)) := by rw [eM476, mu_ne _ _ (Ne.symm (ne_fresh hh51 fq56))]; exact hh461
  have hh482 : M476 q73 = some (irow (kc 0) 60 (fun _ => 0)) := by rw [eM476, mu_ne _ _ (Ne.symm (ne_fresh hh67 fq73))]; exact hh462
  have hh483 : M476 q92 = some (irow (kc 0) 60 (fun _ => 0)) := by rw [eM476, mu_ne _ _ (Ne.symm (ne_fresh hh85 fq92))]; exact hh463
  have hh484 : M476 q113 = some (irow (kc 2) 60 (fun _ => 0)) := by rw [eM476, mu_ne _ _ (Ne.symm (ne_fresh hh105 fq113))]; exact hh464
  have hh485 : M476 q136 = some (irow (kc 0) 100 (fun _ => 0)) := by rw [eM476, mu_ne _ _ (Ne.symm (ne_fresh hh127 fq136))]; exact hh465
  have hh486 : M476 q161 = some (irow (kc 0) 100 (fun _ => 0)) := by rw [eM476, mu_ne _ _ (Ne.symm (ne_fresh hh151 fq161))]; exact hh466
  have hh487 : M476 q188 = some (irow (kc 0) 100 (fun _ => 0)) := by rw [eM476, mu_ne _ _ (Ne.symm (ne_fresh hh177 fq188))]; exact hh467
  have hh488 : M476 q217 = some (irow (kc 0) 100 (fun _ => 0)) := by rw [eM476, mu_ne _ _ (Ne.symm (ne_fresh hh205 fq217))]; exact hh468
  have hh489 : M476 q248 = some (irow (kc 0) 60 (fun _ => 0)) := by rw [eM476, mu_ne _ _ (Ne.symm (ne_fresh hh235 fq248))]; exact hh469
  have hh490 : M476 q281 = some (irow (kc 0) 60 (fun _ => 0)) := by rw [eM476, mu_ne _ _ (Ne.symm (ne_fresh hh267 fq281))]; exact hh470
  have hh491 : M476 q316 = some (irow (kc 0) 60 (fun _ => 0)) := by rw [eM476, mu_ne _ _ (Ne.symm (ne_fresh hh301 fq316))]; exact hh471
  have hh492 : M476 q353 = some (irow (kc 0) 60 (fun _ => 0)) := by rw [eM476, mu_ne _ _ (Ne.symm (ne_fresh hh337 fq353))]; exact hh472
  have hh493 : M476 q392 = some (lrow (kc 1) 4 (fun _ => 0)) := by rw [eM476, mu_ne _ _ (Ne.symm (ne_fresh hh375 fq392))]; exact hh473
  have hh494 : M476 q433 = some (lrow (kc 1) 4 (fun _ => 0)) := by rw [eM476, mu_ne _ _ (Ne.symm (ne_fresh hh415 fq433))]; exact hh474
  have hh495 : M476 h0 = some (.inr (9, [.int 0, .ref q1, .ref q8, .ref q17, .int 0, .ref q28, .ref q41, .ref q56, .ref q73, .ref q92, .ref q113, .int 0, .ref q136, .ref q161, .ref q188, .ref q217, .int 0, .ref q248, .ref q281, .ref q316, .ref q353, .int 0, .ref q392, .ref q433, .int 0])) := by rw [eM476, mu_ne _ _ (ne_fresh hh7 fq8)]; exact hh475
  have hh496 : M476 q8 = some (irow (kc 0) 3 (updI (fun _ => 0) 0 (nI 10))) := by rw [eM476]; exact mu_self _ _ _
  refine lv_aload_n hx hb dX8_init_167 rfl (lv_at hl 1 rfl) ?_
  refine m_get (ref := "CardPortModel") (C := RX8) (T := TX8) (N := 25) (ci := 9) X Y htX8_init_wsX801 hh495 rfl 3 (by decide) kwX8_init_7 rfl (v := .ref q17) rfl dX8_init_168 ?_
  refine lv_iload_n hx hb dX8_init_171 rfl (lv_at hl 0 rfl) ?_
  refine n_sipush hx hb 500 dX8_init_172 (by decide) ?_
  refine m_iast X Y hh478 (vp_in_nI (show 0 < 3 by decide) (by decide)) dX8_init_175 (fun H locs Y => ?_)
  rw [nI_cl (show 0 < 2147483648 by decide)] at Y
  obtain ⟨M497, eM497⟩ : ∃ zz9 : Mp, zz9 = mu M476 q17 (irow (kc 0) 3 (updI (fun _ => 0) 0 (nI 500))) := ⟨_, rfl⟩
  replace Y : mY D A M497 s H locs := by rw [eM497]; exact Y
  have hh498 : M497 q1 = some (irow (kc 0) 8 (fun _ => 0)) := by rw [eM497, mu_ne _ _ (ne_fresh hh14 fq17)]; exact hh477
  have hh499 : M497 q28 = some (irow (kc 0) 60 (fun _ => 0)) := by rw [eM497, mu_ne _ _ (Ne.symm (ne_fresh hh26 fq28))]; exact hh479
  have hh500 : M497 q41 = some (irow (kc 0) 60 (fun _ => 0)) := by rw [eM497, mu_ne _ _ (Ne.symm (ne_fresh hh38 fq41))]; exact hh480
  have hh501 : M497 q56 = some (irow (kc 0) 60 (fun _ => 0)) := by rw [eM497, mu_ne _ _ (Ne.symm (ne_fresh hh52 fq56))]; exact hh481
  have hh502 : M497 q73 = some (irow (kc 0) 60 (fun _ => 0)) := by rw [eM497, mu_ne _ _ (Ne.symm (ne_fresh hh68 fq73))]; exact hh482
  have hh503 : M497 q92 = some (irow (kc 0) 60 (fun _ => 0)) := by rw [eM497, mu_ne _ _ (Ne.symm (ne_fresh hh86 fq92))]; exact hh483
  have hh504 : M497 q113 = some (irow (kc 2) 60 (fun _ => 0)) := by rw [eM497, mu_ne _ _ (Ne.symm (ne_fresh hh106 fq113))]; exact hh484
  have hh505 : M497 q136 = some (irow (kc 0) 100 (fun _ => 0)) := by rw [eM497, mu_ne _ _ (Ne.symm (ne_fresh hh128 fq136))]; exact hh485
  have hh506 : M497 q161 = some (irow (kc 0) 100 (fun _ => 0)) := by rw [eM497, mu_ne _ _ (Ne.symm (ne_fresh hh152 fq161))]; exact hh486
  have hh507 : M497 q188 = some (irow (kc 0) 100 (fun _ => 0)) := by rw [eM497, mu_ne _ _ (Ne.symm (ne_fresh hh178 fq188))]; exact hh487
  have hh508 : M497 q217 = some (irow (kc 0) 100 (fun _ => 0)) := by rw [eM497, mu_ne _ _ (Ne.symm (ne_fresh hh206 fq217))]; exact hh488
  have hh509 : M497 q248 = some (irow (kc 0) 60 (fun _ => 0)) := by rw [eM497, mu_ne _ _ (Ne.symm (ne_fresh hh236 fq248))]; exact hh489
  have hh510 : M497 q281 = some (irow (kc 0) 60 (fun _ => 0)) := by rw [eM497, mu_ne _ _ (Ne.symm (ne_fresh hh268 fq281))]; exact hh490
  have hh511 : M497 q316 = some (irow (kc 0) 60 (fun _ => 0)) := by rw [eM497, mu_ne _ _ (Ne.symm (ne_fresh hh302 fq316))]; exact hh491
  have hh512 : M497 q353 = some (irow (kc 0) 60 (fun _ => 0)) := by rw [eM497, mu_ne _ _ (Ne.symm (ne_fresh hh338 fq353))]; exact hh492
  have hh513 : M497 q392 = some (lrow (kc 1) 4 (fun _ => 0)) := by rw [eM497, mu_ne _ _ (Ne.symm (ne_fresh hh376 fq392))]; exact hh493
  have hh514 : M497 q433 = some (lrow (kc 1) 4 (fun _ => 0)) := by rw [eM497, mu_ne _ _ (Ne.symm (ne_fresh hh416 fq433))]; exact hh494
  have hh515 : M497 h0 = some (.inr (9, [.int 0, .ref q1, .ref q8, .ref q17, .int 0, .ref q28, .ref q41, .ref q56, .ref q73, .ref q92, .ref q113, .int 0, .ref q136, .ref q161, .ref q188, .ref q217, .int 0, .ref q248, .ref q281, .ref q316, .ref q353, .int 0, .ref q392, .ref q433, .int 0])) := by rw [eM497, mu_ne _ _ (ne_fresh hh16 fq17)]; exact hh495
  have hh516 : M497 q8 = some (irow (kc 0) 3 (updI (fun _ => 0) 0 (nI 10))) := by rw [eM497, mu_ne _ _ (ne_fresh hh15 fq17)]; exact hh496
  have hh517 : M497 q17 = some (irow (kc 0) 3 (updI (fun _ => 0) 0 (nI 500))) := by rw [eM497]; exact mu_self _ _ _
  refine lv_iinc (v := (nI (0 + 1))) (lv' := [(1, .int (nI (0 + 1))), (0, .ref h0)]) hx hb dX8_init_176 hl (k := 0) rfl (nI_add _ 1) (by decide) rfl (fun ls hl => ?_)
  refine lv_goto (tgt := 154) hx hb dX8_init_179 (by decide) ?_
  replace hl : lv_has ls 2 [(1, .int (nI 1)), (0, .ref h0)] := hl
  refine lv_iload_n hx hb dX8_init_154 rfl (lv_at hl 0 rfl) ?_
  refine n_iconst hx hb 3 dX8_init_155 (by decide) ?_
  refine n_icmp_ge hx hb 182 (by omega) (by omega) dX8_init_156 (by decide) (fun zq => absurd zq (by decide)) (fun _ => ?_)
  refine lv_aload_n hx hb dX8_init_159 rfl (lv_at hl 1 rfl) ?_
  refine m_get (ref := "CardPortModel") (C := RX8) (T := TX8) (N := 25) (ci := 9) X Y htX8_init_wsX801 hh515 rfl 2 (by decide) kwX8_init_6 rfl (v := .ref q8) rfl dX8_init_160 ?_
  refine lv_iload_n hx hb dX8_init_163 rfl (lv_at hl 0 rfl) ?_
  refine n_bipush hx hb 10 dX8_init_164 (by decide) ?_
  refine m_iast X Y hh516 (vp_in_nI (show 1 < 3 by decide) (by decide)) dX8_init_166 (fun H locs Y => ?_)
  rw [nI_cl (show 1 < 2147483648 by decide)] at Y
  obtain ⟨M518, eM518⟩ : ∃ zz9 : Mp, zz9 = mu M497 q8 (irow (kc 0) 3 (updI (updI (fun _ => 0) 0 (nI 10)) 1 (nI 10))) := ⟨_, rfl⟩
  replace Y : mY D A M518 s H locs := by rw [eM518]; exact Y
  have hh519 : M518 q1 = some (irow (kc 0) 8 (fun _ => 0)) := by rw [eM518, mu_ne _ _ (ne_fresh hh6 fq8)]; exact hh498
  have hh520 : M518 q28 = some (irow (kc 0) 60 (fun _ => 0)) := by rw [eM518, mu_ne _ _ (Ne.symm (ne_fresh hh25 fq28))]; exact hh499
  have hh521 : M518 q41 = some (irow (kc 0) 60 (fun _ => 0)) := by rw [eM518, mu_ne _ _ (Ne.symm (ne_fresh hh37 fq41))]; exact hh500
  have hh522 : M518 q56 = some (irow (kc 0) 60 (fun _ => 0)) := by rw [eM518, mu_ne _ _ (Ne.symm (ne_fresh hh51 fq56))]; exact hh501
  have hh523 : M518 q73 = some (irow (kc 0) 60 (fun _ => 0)) := by rw [eM518, mu_ne _ _ (Ne.symm (ne_fresh hh67 fq73))]; exact hh502
  have hh524 : M518 q92 = some (irow (kc 0) 60 (fun _ => 0)) := by rw [eM518, mu_ne _ _ (Ne.symm (ne_fresh hh85 fq92))]; exact hh503
  have hh525 : M518 q113 = some (irow (kc 2) 60 (fun _ => 0)) := by rw [eM518, mu_ne _ _ (Ne.symm (ne_fresh hh105 fq113))]; exact hh504
  have hh526 : M518 q136 = some (irow (kc 0) 100 (fun _ => 0)) := by rw [eM518, mu_ne _ _ (Ne.symm (ne_fresh hh127 fq136))]; exact hh505
  have hh527 : M518 q161 = some (irow (kc 0) 100 (fun _ => 0)) := by rw [eM518, mu_ne _ _ (Ne.symm (ne_fresh hh151 fq161))]; exact hh506
  have hh528 : M518 q188 = some (irow (kc 0) 100 (fun _ => 0)) := by rw [eM518, mu_ne _ _ (Ne.symm (ne_fresh hh177 fq188))]; exact hh507
  have hh529 : M518 q217 = some (irow (kc 0) 100 (fun _ => 0)) := by rw [eM518, mu_ne _ _ (Ne.symm (ne_fresh hh205 fq217))]; exact hh508
  have hh530 : M518 q248 = some (irow (kc 0) 60 (fun _ => 0)) := by rw [eM518, mu_ne _ _ (Ne.symm (ne_fresh hh235 fq248))]; exact hh509
  have hh531 : M518 q281 = some (irow (kc 0) 60 (fun _ => 0)) := by rw [eM518, mu_ne _ _ (Ne.symm (ne_fresh hh267 fq281))]; exact hh510
  have hh532 : M518 q316 = some (irow (kc 0) 60 (fun _ => 0)) := by rw [eM518, mu_ne _ _ (Ne.symm (ne_fresh hh301 fq316))]; exact hh511
  have hh533 : M518 q353 = some (irow (kc 0) 60 (fun _ => 0)) := by rw [eM518, mu_ne _ _ (Ne.symm (ne_fresh hh337 fq353))]; exact hh512
  have hh534 : M518 q392 = some (lrow (kc 1) 4 (fun _ => 0)) := by rw [eM518, mu_ne _ _ (Ne.symm (ne_fresh hh375 fq392))]; exact hh513
  have hh535 : M518 q433 = some (lrow (kc 1) 4 (fun _ => 0)) := by rw [eM518, mu_ne _ _ (Ne.symm (ne_fresh hh415 fq433))]; exact hh514
  have hh536 : M518 h0 = some (.inr (9, [.int 0, .ref q1, .ref q8, .ref q17, .int 0, .ref q28, .ref q41, .ref q56, .ref q73, .ref q92, .ref q113, .int 0, .ref q136, .ref q161, .ref q188, .ref q217, .int 0, .ref q248, .ref q281, .ref q316, .ref q353, .int 0, .ref q392, .ref q433, .int 0])) := by rw [eM518, mu_ne _ _ (ne_fresh hh7 fq8)]; exact hh515
  have hh537 : M518 q17 = some (irow (kc 0) 3 (updI (fun _ => 0) 0 (nI 500))) := by rw [eM518, mu_ne _ _ (Ne.symm (ne_fresh hh15 fq17))]; exact hh517
  have hh538 : M518 q8 = some (irow (kc 0) 3 (updI (updI (fun _ => 0) 0 (nI 10)) 1 (nI 10))) := by rw [eM518]; exact mu_self _ _ _
  refine lv_aload_n hx hb dX8_init_167 rfl (lv_at hl 1 rfl) ?_
  refine m_get (ref := "CardPortModel") (C := RX8) (T := TX8) (N := 25) (ci := 9) X Y htX8_init_wsX801 hh536 rfl 3 (by decide) kwX8_init_7 rfl (v := .ref q17) rfl dX8_init_168 ?_
  refine lv_iload_n hx hb dX8_init_171 rfl (lv_at hl 0 rfl) ?_
  refine n_sipush hx hb 500 dX8_init_172 (by decide) ?_
  refine m_iast X Y hh537 (vp_in_nI (show 1 < 3 by decide) (by decide)) dX8_init_175 (fun H locs Y => ?_)
  rw [nI_cl (show 1 < 2147483648 by decide)] at Y
  obtain ⟨M539, eM539⟩ : ∃ zz9 : Mp, zz9 = mu M518 q17 (irow (kc 0) 3 (updI (updI (fun _ => 0) 0 (nI 500)) 1 (nI 500))) := ⟨_, rfl⟩
  replace Y : mY D A M539 s H locs := by rw [eM539]; exact Y
  have hh540 : M539 q1 = some (irow (kc 0) 8 (fun _ => 0)) := by rw [eM539, mu_ne _ _ (ne_fresh hh14 fq17)]; exact hh519
  have hh541 : M539 q28 = some (irow (kc 0) 60 (fun _ => 0)) := by rw [eM539, mu_ne _ _ (Ne.symm (ne_fresh hh26 fq28))]; exact hh520
  have hh542 : M539 q41 = some (irow (kc 0) 60 (fun _ => 0)) := by rw [eM539, mu_ne _ _ (Ne.symm (ne_fresh hh38 fq41))]; exact hh521
  have hh543 : M539 q56 = some (irow (kc 0) 60 (fun _ => 0)) := by rw [eM539, mu_ne _ _ (Ne.symm (ne_fresh hh52 fq56))]; exact hh522
  have hh544 : M539 q73 = some (irow (kc 0) 60 (fun _ => 0)) := by rw [eM539, mu_ne _ _ (Ne.symm (ne_fresh hh68 fq73))]; exact hh523
  have hh545 : M539 q92 = some (irow (kc 0) 60 (fun _ => 0)) := by rw [eM539, mu_ne _ _ (Ne.symm (ne_fresh hh86 fq92))]; exact hh524
  have hh546 : M539 q113 = some (irow (kc 2) 60 (fun _ => 0)) := by rw [eM539, mu_ne _ _ (Ne.symm (ne_fresh hh106 fq113))]; exact hh525
  have hh547 : M539 q136 = some (irow (kc 0) 100 (fun _ => 0)) := by rw [eM539, mu_ne _ _ (Ne.symm (ne_fresh hh128 fq136))]; exact hh526
  have hh548 : M539 q161 = some (irow (kc 0) 100 (fun _ => 0)) := by rw [eM539, mu_ne _ _ (Ne.symm (ne_fresh hh152 fq161))]; exact hh527
  have hh549 : M539 q188 = some (irow (kc 0) 100 (fun _ => 0)) := by rw [eM539, mu_ne _ _ (Ne.symm (ne_fresh hh178 fq188))]; exact hh528
  have hh550 : M539 q217 = some (irow (kc 0) 100 (fun _ => 0)) := by rw [eM539, mu_ne _ _ (Ne.symm (ne_fresh hh206 fq217))]; exact hh529
  have hh551 : M539 q248 = some (irow (kc 0) 60 (fun _ => 0)) := by rw [eM539, mu_ne _ _ (Ne.symm (ne_fresh hh236 fq248))]; exact hh530
  have hh552 : M539 q281 = some (irow (kc 0) 60 (fun _ => 0)) := by rw [eM539, mu_ne _ _ (Ne.symm (ne_fresh hh268 fq281))]; exact hh531
  have hh553 : M539 q316 = some (irow (kc 0) 60 (fun _ => 0)) := by rw [eM539, mu_ne _ _ (Ne.symm (ne_fresh hh302 fq316))]; exact hh532
  have hh554 : M539 q353 = some (irow (kc 0) 60 (fun _ => 0)) := by rw [eM539, mu_ne _ _ (Ne.symm (ne_fresh hh338 fq353))]; exact hh533
  have hh555 : M539 q392 = some (lrow (kc 1) 4 (fun _ => 0)) := by rw [eM539, mu_ne _ _ (Ne.symm (ne_fresh hh376 fq392))]; exact hh534
  have hh556 : M539 q433 = some (lrow (kc 1) 4 (fun _ => 0)) := by rw [eM539, mu_ne _ _ (Ne.symm (ne_fresh hh416 fq433))]; exact hh535
  have hh557 : M539 h0 = some (.inr (9, [.int 0, .ref q1, .ref q8, .ref q17, .int 0, .ref q28, .ref q41, .ref q56, .ref q73, .ref q92, .ref q113, .int 0, .ref q136, .ref q161, .ref q188, .ref q217, .int 0, .ref q248, .ref q281, .ref q316, .ref q353, .int 0, .ref q392, .ref q433, .int 0])) := by rw [eM539, mu_ne _ _ (ne_fresh hh16 fq17)]; exact hh536
  have hh558 : M539 q8 = some (irow (kc 0) 3 (updI (updI (fun _ => 0) 0 (nI 10)) 1 (nI 10))) := by rw [eM539, mu_ne _ _ (ne_fresh hh15 fq17)]; exact hh538
  have hh559 : M539 q17 = some (irow (kc 0) 3 (updI (updI (fun _ => 0) 0 (nI 500)) 1 (nI 500))) := by rw [eM539]; exact mu_self _ _ _
  refine lv_iinc (v := (nI (1 + 1))) (lv' := [(1, .int (nI (1 + 1))), (0, .ref h0)]) hx hb dX8_init_176 hl (k := 0) rfl (nI_add _ 1) (by decide) rfl (fun ls hl => ?_)
  refine lv_goto (tgt := 154) hx hb dX8_init_179 (by decide) ?_
  replace hl : lv_has ls 2 [(1, .int (nI 2)), (0, .ref h0)] := hl
  refine lv_iload_n hx hb dX8_init_154 rfl (lv_at hl 0 rfl) ?_
  refine n_iconst hx hb 3 dX8_init_155 (by decide) ?_
  refine n_icmp_ge hx hb 182 (by omega) (by omega) dX8_init_156 (by decide) (fun zq => absurd zq (by decide)) (fun _ => ?_)
  refine lv_aload_n hx hb dX8_init_159 rfl (lv_at hl 1 rfl) ?_
  refine m_get (ref := "CardPortModel") (C := RX8) (T := TX8) (N := 25) (ci := 9) X Y htX8_init_wsX801 hh557 rfl 2 (by decide) kwX8_init_6 rfl (v := .ref q8) rfl dX8_init_160 ?_
  refine lv_iload_n hx hb dX8_init_163 rfl (lv_at hl 0 rfl) ?_
  refine n_bipush hx hb 10 dX8_init_164 (by decide) ?_
  refine m_iast X Y hh558 (vp_in_nI (show 2 < 3 by decide) (by decide)) dX8_init_166 (fun H locs Y => ?_)
  rw [nI_cl (show 2 < 2147483648 by decide)] at Y
  obtain ⟨M560, eM560⟩ : ∃ zz9 : Mp, zz9 = mu M539 q8 (irow (kc 0) 3 (updI (updI (updI (fun _ => 0) 0 (nI 10)) 1 (nI 10)) 2 (nI 10))) := ⟨_, rfl⟩
  replace Y : mY D A M560 s H locs := by rw [eM560]; exact Y
  have hh561 : M560 q1 = some (irow (kc 0) 8 (fun _ => 0)) := by rw [eM560, mu_ne _ _ (ne_fresh hh6 fq8)]; exact hh540
  have hh562 : M560 q28 = some (irow (kc 0) 60 (fun _ => 0)) := by rw [eM560, mu_ne _ _ (Ne.symm (ne_fresh hh25 fq28))]; exact hh541
  have hh563 : M560 q41 = some (irow (kc 0) 60 (fun _ => 0)) := by rw [eM560, mu_ne _ _ (Ne.symm (ne_fresh hh37 fq41))]; exact hh542
  have hh564 : M560 q56 = some (irow (kc 0) 60 (fun _ => 0)) := by rw [eM560, mu_ne _ _ (Ne.symm (ne_fresh hh51 fq56))]; exact hh543
  have hh565 : M560 q73 = some (irow (kc 0) 60 (fun _ => 0)) := by rw [eM560, mu_ne _ _ (Ne.symm (ne_fresh hh67 fq73))]; exact hh544
  have hh566 : M560 q92 = some (irow (kc 0) 60 (fun _ => 0)) := by rw [eM560, mu_ne _ _ (Ne.symm (ne_fresh hh85 fq92))]; exact hh545
  have hh567 : M560 q113 = some (irow (kc 2) 60 (fun _ => 0)) := by rw [eM560, mu_ne _ _ (Ne.symm (ne_fresh hh105 fq113))]; exact hh546
  have hh568 : M560 q136 = some (irow (kc 0) 100 (fun _ => 0)) := by rw [eM560, mu_ne _ _ (Ne.symm (ne_fresh hh127 fq136))]; exact hh547
  have hh569 : M560 q161 = some (irow (kc 0) 100 (fun _ => 0)) := by rw [eM560, mu_ne _ _ (Ne.symm (ne_fresh hh151 fq161))]; exact hh548
  have hh570 : M560 q188 = some (irow (kc 0) 100 (fun _ => 0)) := by rw [eM560, mu_ne _ _ (Ne.symm (ne_fresh hh177 fq188))]; exact hh549
  have hh571 : M560 q217 = some (irow (kc 0) 100 (fun _ => 0)) := by rw [eM560, mu_ne _ _ (Ne.symm (ne_fresh hh205 fq217))]; exact hh550
  have hh572 : M560 q248 = some (irow (kc 0) 60 (fun _ => 0)) := by rw [eM560, mu_ne _ _ (Ne.symm (ne_fresh hh235 fq248))]; exact hh551
  have hh573 : M560 q281 = some (irow (kc 0) 60 (fun _ => 0)) := by rw [eM560, mu_ne _ _ (Ne.symm (ne_fresh hh267 fq281))]; exact hh552
  have hh574 : M560 q316 = some (irow (kc 0) 60 (fun _ => 0)) := by rw [eM560, mu_ne _ _ (Ne.symm (ne_fresh hh301 fq316))]; exact hh553
  have hh575 : M560 q353 = some (irow (kc 0) 60 (fun _ => 0)) := by rw [eM560, mu_ne _ _ (Ne.symm (ne_fresh hh337 fq353))]; exact hh554
  have hh576 : M560 q392 = some (lrow (kc 1) 4 (fun _ => 0)) := by rw [eM560, mu_ne _ _ (Ne.symm (ne_fresh hh375 fq392))]; exact hh555
  have hh577 : M560 q433 = some (lrow (kc 1) 4 (fun _ => 0)) := by rw [eM560, mu_ne _ _ (Ne.symm (ne_fresh hh415 fq433))]; exact hh556
  have hh578 : M560 h0 = some (.inr (9, [.int 0, .ref q1, .ref q8, .ref q17, .int 0, .ref q28, .ref q41, .ref q56, .ref q73, .ref q92, .ref q113, .int 0, .ref q136, .ref q161, .ref q188, .ref q217, .int 0, .ref q248, .ref q281, .ref q316, .ref q353, .int 0, .ref q392, .ref q433, .int 0])) := by rw [eM560, mu_ne _ _ (ne_fresh hh7 fq8)]; exact hh557
  have hh579 : M560 q17 = some (irow (kc 0) 3 (updI (updI (fun _ => 0) 0 (nI 500)) 1 (nI 500))) := by rw [eM560, mu_ne _ _ (Ne.symm (ne_fresh hh15 fq17))]; exact hh559
  have hh580 : M560 q8 = some (irow (kc 0) 3 (updI (updI (updI (fun _ => 0) 0 (nI 10)) 1 (nI 10)) 2 (nI 10))) := by rw [eM560]; exact mu_self _ _ _
  refine lv_aload_n hx hb dX8_init_167 rfl (lv_at hl 1 rfl) ?_
  refine m_get (ref := "CardPortModel") (C := RX8) (T := TX8) (N := 25) (ci := 9) X Y htX8_init_wsX801 hh578 rfl 3 (by decide) kwX8_init_7 rfl (v := .ref q17) rfl dX8_init_168 ?_
  refine lv_iload_n hx hb dX8_init_171 rfl (lv_at hl 0 rfl) ?_
  refine n_sipush hx hb 500 dX8_init_172 (by decide) ?_
  refine m_iast X Y hh579 (vp_in_nI (show 2 < 3 by decide) (by decide)) dX8_init_175 (fun H locs Y => ?_)
  rw [nI_cl (show 2 < 2147483648 by decide)] at Y
  obtain ⟨M581, eM581⟩ : ∃ zz9 : Mp, zz9 = mu M560 q17 (irow (kc 0) 3 (updI (updI (updI (fun _ => 0) 0 (nI 500)) 1 (nI 500)) 2 (nI 500))) := ⟨_, rfl⟩
  replace Y : mY D A M581 s H locs := by rw [eM581]; exact Y
  have hh582 : M581 q1 = some (irow (kc 0) 8 (fun _ => 0)) := by rw [eM581, mu_ne _ _ (ne_fresh hh14 fq17)]; exact hh561
  have hh583 : M581 q28 = some (irow (kc 0) 60 (fun _ => 0)) := by rw [eM581, mu_ne _ _ (Ne.symm (ne_fresh hh26 fq28))]; exact hh562
  have hh584 : M581 q41 = some (irow (kc 0) 60 (fun _ => 0)) := by rw [eM581, mu_ne _ _ (Ne.symm (ne_fresh hh38 fq41))]; exact hh563
  have hh585 : M581 q56 = some (irow (kc 0) 60 (fun _ => 0)) := by rw [eM581, mu_ne _ _ (Ne.symm (ne_fresh hh52 fq56))]; exact hh564
  have hh586 : M581 q73 = some (irow (kc 0) 60 (fun _ => 0)) := by rw [eM581, mu_ne _ _ (Ne.symm (ne_fresh hh68 fq73))]; exact hh565
  have hh587 : M581 q92 = some (irow (kc 0) 60 (fun _ => 0)) := by rw [eM581, mu_ne _ _ (Ne.symm (ne_fresh hh86 fq92))]; exact hh566
  have hh588 : M581 q113 = some (irow (kc 2) 60 (fun _ => 0)) := by rw [eM581, mu_ne _ _ (Ne.symm (ne_fresh hh106 fq113))]; exact hh567
  have hh589 : M581 q136 = some (irow (kc 0) 100 (fun _ => 0)) := by rw [eM581, mu_ne _ _ (Ne.symm (ne_fresh hh128 fq136))]; exact hh568
  have hh590 : M581 q161 = some (irow (kc 0) 100 (fun _ => 0)) := by rw [eM581, mu_ne _ _ (Ne.symm (ne_fresh hh152 fq161))]; exact hh569
  have hh591 : M581 q188 = some (irow (kc 0) 100 (fun _ => 0)) := by rw [eM581, mu_ne _ _ (Ne.symm (ne_fresh hh178 fq188))]; exact hh570
  have hh592 : M581 q217 = some (irow (kc 0) 100 (fun _ => 0)) := by rw [eM581, mu_ne _ _ (Ne.symm (ne_fresh hh206 fq217))]; exact hh571
  have hh593 : M581 q248 = some (irow (kc 0) 60 (fun _ => 0)) := by rw [eM581, mu_ne _ _ (Ne.symm (ne_fresh hh236 fq248))]; exact hh572
  have hh594 : M581 q281 = some (irow (kc 0) 60 (fun _ => 0)) := by rw [eM581, mu_ne _ _ (Ne.symm (ne_fresh hh268 fq281))]; exact hh573
  have hh595 : M581 q316 = some (irow (kc 0) 60 (fun _ => 0)) := by rw [eM581, mu_ne _ _ (Ne.symm (ne_fresh hh302 fq316))]; exact hh574
  have hh596 : M581 q353 = some (irow (kc 0) 60 (fun _ => 0)) := by rw [eM581, mu_ne _ _ (Ne.symm (ne_fresh hh338 fq353))]; exact hh575
  have hh597 : M581 q392 = some (lrow (kc 1) 4 (fun _ => 0)) := by rw [eM581, mu_ne _ _ (Ne.symm (ne_fresh hh376 fq392))]; exact hh576
  have hh598 : M581 q433 = some (lrow (kc 1) 4 (fun _ => 0)) := by rw [eM581, mu_ne _ _ (Ne.symm (ne_fresh hh416 fq433))]; exact hh577
  have hh599 : M581 h0 = some (.inr (9, [.int 0, .ref q1, .ref q8, .ref q17, .int 0, .ref q28, .ref q41, .ref q56, .ref q73, .ref q92, .ref q113, .int 0, .ref q136, .ref q161, .ref q188, .ref q217, .int 0, .ref q248, .ref q281, .ref q316, .ref q353, .int 0, .ref q392, .ref q433, .int 0])) := by rw [eM581, mu_ne _ _ (ne_fresh hh16 fq17)]; exact hh578
  have hh600 : M581 q8 = some (irow (kc 0) 3 (updI (updI (updI (fun _ => 0) 0 (nI 10)) 1 (nI 10)) 2 (nI 10))) := by rw [eM581, mu_ne _ _ (ne_fresh hh15 fq17)]; exact hh580
  have hh601 : M581 q17 = some (irow (kc 0) 3 (updI (updI (updI (fun _ => 0) 0 (nI 500)) 1 (nI 500)) 2 (nI 500))) := by rw [eM581]; exact mu_self _ _ _
  refine lv_iinc (v := (nI (2 + 1))) (lv' := [(1, .int (nI (2 + 1))), (0, .ref h0)]) hx hb dX8_init_176 hl (k := 0) rfl (nI_add _ 1) (by decide) rfl (fun ls hl => ?_)
  refine lv_goto (tgt := 154) hx hb dX8_init_179 (by decide) ?_
  replace hl : lv_has ls 2 [(1, .int (nI 3)), (0, .ref h0)] := hl
  refine lv_iload_n hx hb dX8_init_154 rfl (lv_at hl 0 rfl) ?_
  refine n_iconst hx hb 3 dX8_init_155 (by decide) ?_
  refine n_icmp_ge hx hb 182 (by omega) (by omega) dX8_init_156 (by decide) (fun _ => ?_) (fun zq => absurd zq (by decide))
  refine m_vret X Y hr hlocks (by decide) (by decide) ?_ dX8_init_182
  have hKP : KP M M h0 := KP.rf M h0
  have hn602 : M q1 = none := hKP.none fq1 (ne_fresh hm fq1)
  replace hKP : KP M M2 h0 := by rw [eM2]; exact hKP.new fq1
  replace hKP : KP M M5 h0 := by rw [eM5]; exact hKP.put
  have hn603 : M q8 = none := hKP.none fq8 (ne_fresh hh7 fq8)
  replace hKP : KP M M9 h0 := by rw [eM9]; exact hKP.new fq8
  replace hKP : KP M M13 h0 := by rw [eM13]; exact hKP.put
  have hn604 : M q17 = none := hKP.none fq17 (ne_fresh hh16 fq17)
  replace hKP : KP M M18 h0 := by rw [eM18]; exact hKP.new fq17
  replace hKP : KP M M23 h0 := by rw [eM23]; exact hKP.put
  have hn605 : M q28 = none := hKP.none fq28 (ne_fresh hh27 fq28)
  replace hKP : KP M M29 h0 := by rw [eM29]; exact hKP.new fq28
  replace hKP : KP M M35 h0 := by rw [eM35]; exact hKP.put
  have hn606 : M q41 = none := hKP.none fq41 (ne_fresh hh40 fq41)
  replace hKP : KP M M42 h0 := by rw [eM42]; exact hKP.new fq41
  replace hKP : KP M M49 h0 := by rw [eM49]; exact hKP.put
  have hn607 : M q56 = none := hKP.none fq56 (ne_fresh hh55 fq56)
  replace hKP : KP M M57 h0 := by rw [eM57]; exact hKP.new fq56
  replace hKP : KP M M65 h0 := by rw [eM65]; exact hKP.put
  have hn608 : M q73 = none := hKP.none fq73 (ne_fresh hh72 fq73)
  replace hKP : KP M M74 h0 := by rw [eM74]; exact hKP.new fq73
  replace hKP : KP M M83 h0 := by rw [eM83]; exact hKP.put
  have hn609 : M q92 = none := hKP.none fq92 (ne_fresh hh91 fq92)
  replace hKP : KP M M93 h0 := by rw [eM93]; exact hKP.new fq92
  replace hKP : KP M M103 h0 := by rw [eM103]; exact hKP.put
  have hn610 : M q113 = none := hKP.none fq113 (ne_fresh hh112 fq113)
  replace hKP : KP M M114 h0 := by rw [eM114]; exact hKP.new fq113
  replace hKP : KP M M125 h0 := by rw [eM125]; exact hKP.put
  have hn611 : M q136 = none := hKP.none fq136 (ne_fresh hh135 fq136)
  replace hKP : KP M M137 h0 := by rw [eM137]; exact hKP.new fq136
  replace hKP : KP M M149 h0 := by rw [eM149]; exact hKP.put
  have hn612 : M q161 = none := hKP.none fq161 (ne_fresh hh160 fq161)
  replace hKP : KP M M162 h0 := by rw [eM162]; exact hKP.new fq161
  replace hKP : KP M M175 h0 := by rw [eM175]; exact hKP.put
  have hn613 : M q188 = none := hKP.none fq188 (ne_fresh hh187 fq188)
  replace hKP : KP M M189 h0 := by rw [eM189]; exact hKP.new fq188
  replace hKP : KP M M203 h0 := by rw [eM203]; exact hKP.put
  have hn614 : M q217 = none := hKP.none fq217 (ne_fresh hh216 fq217)
  replace hKP : KP M M218 h0 := by rw [eM218]; exact hKP.new fq217
  replace hKP : KP M M233 h0 := by rw [eM233]; exact hKP.put
  have hn615 : M q248 = none := hKP.none fq248 (ne_fresh hh247 fq248)
  replace hKP : KP M M249 h0 := by rw [eM249]; exact hKP.new fq248
  replace hKP : KP M M265 h0 := by rw [eM265]; exact hKP.put
  have hn616 : M q281 = none := hKP.none fq281 (ne_fresh hh280 fq281)
  replace hKP : KP M M282 h0 := by rw [eM282]; exact hKP.new fq281
  replace hKP : KP M M299 h0 := by rw [eM299]; exact hKP.put
  have hn617 : M q316 = none := hKP.none fq316 (ne_fresh hh315 fq316)
  replace hKP : KP M M317 h0 := by rw [eM317]; exact hKP.new fq316
  replace hKP : KP M M335 h0 := by rw [eM335]; exact hKP.put
  have hn618 : M q353 = none := hKP.none fq353 (ne_fresh hh352 fq353)
  replace hKP : KP M M354 h0 := by rw [eM354]; exact hKP.new fq353
  replace hKP : KP M M373 h0 := by rw [eM373]; exact hKP.put
  have hn619 : M q392 = none := hKP.none fq392 (ne_fresh hh391 fq392)
  replace hKP : KP M M393 h0 := by rw [eM393]; exact hKP.new fq392
  replace hKP : KP M M413 h0 := by rw [eM413]; exact hKP.put
  have hn620 : M q433 = none := hKP.none fq433 (ne_fresh hh432 fq433)
  replace hKP : KP M M434 h0 := by rw [eM434]; exact hKP.new fq433
  replace hKP : KP M M455 h0 := by rw [eM455]; exact hKP.put
  replace hKP : KP M M476 h0 := by rw [eM476]; exact hKP.old hn603
  replace hKP : KP M M497 h0 := by rw [eM497]; exact hKP.old hn604
  replace hKP : KP M M518 h0 := by rw [eM518]; exact hKP.old hn603
  replace hKP : KP M M539 h0 := by rw [eM539]; exact hKP.old hn604
  replace hKP : KP M M560 h0 := by rw [eM560]; exact hKP.old hn603
  replace hKP : KP M M581 h0 := by rw [eM581]; exact hKP.old hn604
  obtain ⟨qs, hqs⟩ : ∃ zz : List Nat, zz = [q1, q8, q17, q28, q41, q56, q73, q92, q136, q161, q188, q217, q248, q281, q316, q353, q113, q392, q433] := ⟨_, rfl⟩
  have nd18 : nd_1 q433 [] := trivial
  have nd17 : nd_1 q392 [q433] := ⟨(ne_fresh hh431 fq433), trivial⟩
  have nd16 : nd_1 q113 [q392, q433] := ⟨(ne_fresh hh382 fq392), (ne_fresh hh422 fq433), trivial⟩
  have nd15 : nd_1 q353 [q113, q392, q433] := ⟨(Ne.symm (ne_fresh hh344 fq353)), (ne_fresh hh390 fq392), (ne_fresh hh430 fq433), trivial⟩
  have nd14 : nd_1 q316 [q353, q113, q392, q433] := ⟨(ne_fresh hh351 fq353), (Ne.symm (ne_fresh hh308 fq316)), (ne_fresh hh389 fq392), (ne_fresh hh429 fq433), trivial⟩
  have nd13 : nd_1 q281 [q316, q353, q113, q392, q433] := ⟨(ne_fresh hh314 fq316), (ne_fresh hh350 fq353), (Ne.symm (ne_fresh hh274 fq281)), (ne_fresh hh388 fq392), (ne_fresh hh428 fq433), trivial⟩
  have nd12 : nd_1 q248 [q281, q316, q353, q113, q392, q433] := ⟨(ne_fresh hh279 fq281), (ne_fresh hh313 fq316), (ne_fresh hh349 fq353), (Ne.symm (ne_fresh hh242 fq248)), (ne_fresh hh387 fq392), (ne_fresh hh427 fq433), trivial⟩
  have nd11 : nd_1 q217 [q248, q281, q316, q353, q113, q392, q433] := ⟨(ne_fresh hh246 fq248), (ne_fresh hh278 fq281), (ne_fresh hh312 fq316), (ne_fresh hh348 fq353), (Ne.symm (ne_fresh hh212 fq217)), (ne_fresh hh386 fq392), (ne_fresh hh426 fq433), trivial⟩
  have nd10 : nd_1 q188 [q217, q248, q281, q316, q353, q113, q392, q433] := ⟨(ne_fresh hh215 fq217), (ne_fresh hh245 fq248), (ne_fresh hh277 fq281), (ne_fresh hh311 fq316), (ne_fresh hh347 fq353), (Ne.symm (ne_fresh hh184 fq188)), (ne_fresh hh385 fq392), (ne_fresh hh425 fq433), trivial⟩
  have nd9 : nd_1 q161 [q188, q217, q248, q281, q316, q353, q113, q392, q433] := ⟨(ne_fresh hh186 fq188), (ne_fresh hh214 fq217), (ne_fresh hh244 fq248), (ne_fresh hh276 fq281), (ne_fresh hh310 fq316), (ne_fresh hh346 fq353), (Ne.symm (ne_fresh hh158 fq161)), (ne_fresh hh384 fq392), (ne_fresh hh424 fq433), trivial⟩
  have nd8 : nd_1 q136 [q161, q188, q217, q248, q281, q316, q353, q113, q392, q433] := ⟨(ne_fresh hh159 fq161), (ne_fresh hh185 fq188), (ne_fresh hh213 fq217), (ne_fresh hh243 fq248), (ne_fresh hh275 fq281), (ne_fresh hh309 fq316), (ne_fresh hh345 fq353), (Ne.symm (ne_fresh hh134 fq136)), (ne_fresh hh383 fq392), (ne_fresh hh423 fq433), trivial⟩
  have nd7 : nd_1 q92 [q136, q161, q188, q217, q248, q281, q316, q353, q113, q392, q433] := ⟨(ne_fresh hh133 fq136), (ne_fresh hh157 fq161), (ne_fresh hh183 fq188), (ne_fresh hh211 fq217), (ne_fresh hh241 fq248), (ne_fresh hh273 fq281), (ne_fresh hh307 fq316), (ne_fresh hh343 fq353), (ne_fresh hh111 fq113), (ne_fresh hh381 fq392), (ne_fresh hh421 fq433), trivial⟩
  have nd6 : nd_1 q73 [q92, q136, q161, q188, q217, q248, q281, q316, q353, q113, q392, q433] := ⟨(ne_fresh hh90 fq92), (ne_fresh hh132 fq136), (ne_fresh hh156 fq161), (ne_fresh hh182 fq188), (ne_fresh hh210 fq217), (ne_fresh hh240 fq248), (ne_fresh hh272 fq281), (ne_fresh hh306 fq316), (ne_fresh hh342 fq353), (ne_fresh hh110 fq113), (ne_fresh hh380 fq392), (ne_fresh hh420 fq433), trivial⟩
  have nd5 : nd_1 q56 [q73, q92, q136, q161, q188, q217, q248, q281, q316, q353, q113, q392, q433] := ⟨(ne_fresh hh71 fq73), (ne_fresh hh89 fq92), (ne_fresh hh131 fq136), (ne_fresh hh155 fq161), (ne_fresh hh181 fq188), (ne_fresh hh209 fq217), (ne_fresh hh239 fq248), (ne_fresh hh271 fq281), (ne_fresh hh305 fq316), (ne_fresh hh341 fq353), (ne_fresh hh109 fq113), (ne_fresh hh379 fq392), (ne_fresh hh419 fq433), trivial⟩
  have nd4 : nd_1 q41 [q56, q73, q92, q136, q161, q188, q217, q248, q281, q316, q353, q113, q392, q433] := ⟨(ne_fresh hh54 fq56), (ne_fresh hh70 fq73), (ne_fresh hh88 fq92), (ne_fresh hh130 fq136), (ne_fresh hh154 fq161), (ne_fresh hh180 fq188), (ne_fresh hh208 fq217), (ne_fresh hh238 fq248), (ne_fresh hh270 fq281), (ne_fresh hh304 fq316), (ne_fresh hh340 fq353), (ne_fresh hh108 fq113), (ne_fresh hh378 fq392), (ne_fresh hh418 fq433), trivial⟩
  have nd3 : nd_1 q28 [q41, q56, q73, q92, q136, q161, q188, q217, q248, q281, q316, q353, q113, q392, q433] := ⟨(ne_fresh hh39 fq41), (ne_fresh hh53 fq56), (ne_fresh hh69 fq73), (ne_fresh hh87 fq92), (ne_fresh hh129 fq136), (ne_fresh hh153 fq161), (ne_fresh hh179 fq188), (ne_fresh hh207 fq217), (ne_fresh hh237 fq248), (ne_fresh hh269 fq281), (ne_fresh hh303 fq316), (ne_fresh hh339 fq353), (ne_fresh hh107 fq113), (ne_fresh hh377 fq392), (ne_fresh hh417 fq433), trivial⟩
  have nd2 : nd_1 q17 [q28, q41, q56, q73, q92, q136, q161, q188, q217, q248, q281, q316, q353, q113, q392, q433] := ⟨(ne_fresh hh26 fq28), (ne_fresh hh38 fq41), (ne_fresh hh52 fq56), (ne_fresh hh68 fq73), (ne_fresh hh86 fq92), (ne_fresh hh128 fq136), (ne_fresh hh152 fq161), (ne_fresh hh178 fq188), (ne_fresh hh206 fq217), (ne_fresh hh236 fq248), (ne_fresh hh268 fq281), (ne_fresh hh302 fq316), (ne_fresh hh338 fq353), (ne_fresh hh106 fq113), (ne_fresh hh376 fq392), (ne_fresh hh416 fq433), trivial⟩
  have nd1 : nd_1 q8 [q17, q28, q41, q56, q73, q92, q136, q161, q188, q217, q248, q281, q316, q353, q113, q392, q433] := ⟨(ne_fresh hh15 fq17), (ne_fresh hh25 fq28), (ne_fresh hh37 fq41), (ne_fresh hh51 fq56), (ne_fresh hh67 fq73), (ne_fresh hh85 fq92), (ne_fresh hh127 fq136), (ne_fresh hh151 fq161), (ne_fresh hh177 fq188), (ne_fresh hh205 fq217), (ne_fresh hh235 fq248), (ne_fresh hh267 fq281), (ne_fresh hh301 fq316), (ne_fresh hh337 fq353), (ne_fresh hh105 fq113), (ne_fresh hh375 fq392), (ne_fresh hh415 fq433), trivial⟩
  have nd0 : nd_1 q1 [q8, q17, q28, q41, q56, q73, q92, q136, q161, q188, q217, q248, q281, q316, q353, q113, q392, q433] := ⟨(ne_fresh hh6 fq8), (ne_fresh hh14 fq17), (ne_fresh hh24 fq28), (ne_fresh hh36 fq41), (ne_fresh hh50 fq56), (ne_fresh hh66 fq73), (ne_fresh hh84 fq92), (ne_fresh hh126 fq136), (ne_fresh hh150 fq161), (ne_fresh hh176 fq188), (ne_fresh hh204 fq217), (ne_fresh hh234 fq248), (ne_fresh hh266 fq281), (ne_fresh hh300 fq316), (ne_fresh hh336 fq353), (ne_fresh hh104 fq113), (ne_fresh hh374 fq392), (ne_fresh hh414 fq433), trivial⟩
  have hnd : [q1, q8, q17, q28, q41, q56, q73, q92, q136, q161, q188, q217, q248, q281, q316, q353, q113, q392, q433].Nodup := (nd_c nd0 (nd_c nd1 (nd_c nd2 (nd_c nd3 (nd_c nd4 (nd_c nd5 (nd_c nd6 (nd_c nd7 (nd_c nd8 (nd_c nd9 (nd_c nd10 (nd_c nd11 (nd_c nd12 (nd_c nd13 (nd_c nd14 (nd_c nd15 (nd_c nd16 (nd_c nd17 (nd_c nd18 nd_n)))))))))))))))))))
  refine ⟨fun k => qs.getD (midx k) 0, ?_, ?_, ?_, ?_, hKP⟩
  · rw [hqs]; exact hh599
  · rw [hqs]; intro k hk; simp only [marrs, List.mem_cons, List.not_mem_nil, or_false] at hk
    rcases hk with rfl | rfl | rfl | rfl | rfl | rfl | rfl | rfl | rfl | rfl | rfl | rfl | rfl | rfl | rfl | rfl | rfl | rfl | rfl
    · exact hh582
    · exact hh600
    · exact hh601
    · exact hh583
    · exact hh584
    · exact hh585
    · exact hh586
    · exact hh587
    · exact hh589
    · exact hh590
    · exact hh591
    · exact hh592
    · exact hh593
    · exact hh594
    · exact hh595
    · exact hh596
    · exact hh588
    · exact hh597
    · exact hh598
  · rw [hqs]; intro k hk; simp only [marrs, List.mem_cons, List.not_mem_nil, or_false] at hk
    rcases hk with rfl | rfl | rfl | rfl | rfl | rfl | rfl | rfl | rfl | rfl | rfl | rfl | rfl | rfl | rfl | rfl | rfl | rfl | rfl
    · exact hn602
    · exact hn603
    · exact hn604
    · exact hn605
    · exact hn606
    · exact hn607
    · exact hn608
    · exact hn609
    · exact hn611
    · exact hn612
    · exact hn613
    · exact hn614
    · exact hn615
    · exact hn616
    · exact hn617
    · exact hn618
    · exact hn610
    · exact hn619
    · exact hn620
  · intro k hk j hj h; rw [hqs] at h; exact midx_inj k hk j hj (nd_get hnd _ _ (midx_lt k hk) (midx_lt j hj) h)
