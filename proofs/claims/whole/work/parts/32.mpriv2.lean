theorem lN_lI (x : Nat) : lN x = lI (x : Int) := (Int64.ofInt_eq_ofNat (n := x)).symm
theorem lN_div {a b : Nat} (ha : a < 2147483648) (hb : b < 2147483648) : lN a / lN b = lN (a / b) := by
  have hd : a / b ≤ a := Nat.div_le_self _ _
  have e : ((a : Int).tdiv (b : Int)) = ((a / b : Nat) : Int) := rfl
  rw [← Int64.toInt_inj, Int64.toInt_div, lN_toInt ha, lN_toInt hb, lN_toInt (by omega), e]
  clear e
  generalize a / b = q at hd ⊢
  exact Int.bmod_eq_of_le (by omega) (by omega)
theorem kwX8_feeOf_1 : Cond.fieldLink RX8 13 "CardPortModel" "rate" "[I" ∈ wsX8_feeOf := List.mem_of_getElem? (i := 1) rfl
theorem htX8_feeOf_wsX801 : ∀ w ∈ wsX80, w ∈ wsX8_feeOf := fun _ h => List.mem_cons_of_mem _ (List.mem_append_right _ h)
theorem kwX8_feeOf_2 : Cond.constantLong RX8 88 (1000) ∈ wsX8_feeOf := List.mem_of_getElem? (i := 2) rfl
theorem kwX8_feeOf_3 : Cond.fieldLink RX8 16 "CardPortModel" "cap" "[I" ∈ wsX8_feeOf := List.mem_of_getElem? (i := 3) rfl
set_option maxHeartbeats 4000000 in
set_option maxRecDepth 100000 in
theorem c_m_feeOf (l : Launch) (D : va_G) (kc : Nat → ClassId) (A : Nat → Prop) (e0 : Nat × Nat) (M : Mp) {pr : Nat → Prop} {σ τ : Sg} {th : Int32} {o : Int64} {g : Gh} (hG : G pr kc e0 σ τ th o g M) (hpr : ∀ t, t ≤ 13 → pr t) (k0 v0 : Nat) (hk0 : k0 < 3) (hv0 : v0 < 2147483648) (hmul : v0 * τ.1 2 k0 < 2147483648) (hcp : τ.1 3 k0 < 2147483648) (hrt : τ.1 2 k0 < 2147483648) : Met l yX8_feeOf wsX8_feeOf ({ frames := 0, cells := 0, slots := 0, locals := 0 }) (mPre D kc A e0 M [.ref (g.1 11 0), .int (nI k0), .int (nI v0)]) (va_Qi (fun r M1 => r = nI (feeN (τ.1 3 k0) (τ.1 2 k0) v0) ∧ M1 = M) (mB D A) A) 0 0 A := by
  refine Met.ofW (cc := cX8_feeOf) (maxL := 5) (ret := (some .int)) (by decide) rfl ?_
  intro p e s m args below meth c s₁ B hml hv
  obtain ⟨rfl, hw, hK, hA, hcx⟩ := hv
  have X : mX p s m _ c cX8_feeOf 5 RX8 wsX8_feeOf D kc := ⟨⟨B.exec, B.bytes, hml, findClass_of_methodNamed B.named, atoms_spec (ws := wsX8_feeOf) B.pre⟩, hK⟩
  have hx := B.exec
  have hb := B.bytes
  have hr := B.returns
  have hlocks := B.notSynchronized
  have Y : mY D A M s s.heap [] := ⟨hw, va_S.rf⟩
  have hl := lv_entry ([.ref (g.1 11 0), .int (nI k0), .int (nI v0)]) (n := 5) (Nat.le_of_ble_eq_true rfl)
  rw [lg_entry_eq]
  generalize (lg_sl ([.ref (g.1 11 0), .int (nI k0), .int (nI v0)]) ++ List.replicate (5 - (lg_sl ([.ref (g.1 11 0), .int (nI k0), .int (nI v0)])).length) Slot.unset).toArray = ls at hl ⊢
  have hl : lv_has ls 5 [(0, .ref (g.1 11 0)), (1, .int (nI k0)), (2, .int (nI v0))] := hl
  have hdv : v0 * τ.1 2 k0 / 1000 ≤ v0 * τ.1 2 k0 := Nat.div_le_self _ _
  refine lv_iload_n hx hb dX8_feeOf_0 rfl (lv_at hl 2 rfl) ?_
  refine n_i2l hx hb (by omega) dX8_feeOf_1 ?_
  refine lv_aload_n hx hb dX8_feeOf_2 rfl (lv_at hl 0 rfl) ?_
  have hg1 := hG.f11 (hpr 11 (by decide))
  refine m_get (ref := "CardPortModel") (C := RX8) (T := TX8) (N := 25) (ci := 9) X Y htX8_feeOf_wsX801 hg1 rfl 2 (by decide) kwX8_feeOf_1 rfl (v := .ref (g.1 12 2)) rfl dX8_feeOf_3 ?_
  refine lv_iload_n hx hb dX8_feeOf_6 rfl (lv_at hl 1 rfl) ?_
  refine g_iald X Y hG (hpr 12 (by decide)) (k := 2) (by decide) (j := k0) (show k0 < 3 by omega) (v := τ.1 2 k0) rfl dX8_feeOf_7 ?_
  refine n_i2l hx hb (by omega) dX8_feeOf_8 ?_
  refine lv_lmul hx hb dX8_feeOf_9 ?_
  refine lv_ldc2 hx hb X.1.2.2.2.1 (X.1.2.2.2.2 _ kwX8_feeOf_2) dX8_feeOf_10 ?_
  refine lv_ldiv hx hb dX8_feeOf_13 (by decide) ?_
  refine n_topl (y := lN (v0 * τ.1 2 k0 / 1000)) (by rw [lN_mul, show (1000 : Int64) = lN 1000 from rfl, lN_div hmul (by decide)]) ?_
  refine lv_lstore_n (lv' := [(3, .long (lN (v0 * τ.1 2 k0 / 1000))), (0, .ref (g.1 11 0)), (1, .int (nI k0)), (2, .int (nI v0))]) hx hb dX8_feeOf_14 rfl hl (by decide) rfl (fun ls hl => ?_)
  refine lv_lload_n hx hb dX8_feeOf_15 rfl (lv_at hl 0 rfl) ?_
  refine lv_aload_n hx hb dX8_feeOf_16 rfl (lv_at hl 1 rfl) ?_
  refine m_get (ref := "CardPortModel") (C := RX8) (T := TX8) (N := 25) (ci := 9) X Y htX8_feeOf_wsX801 hg1 rfl 3 (by decide) kwX8_feeOf_3 rfl (v := .ref (g.1 12 3)) rfl dX8_feeOf_17 ?_
  refine lv_iload_n hx hb dX8_feeOf_20 rfl (lv_at hl 2 rfl) ?_
  refine g_iald X Y hG (hpr 12 (by decide)) (k := 3) (by decide) (j := k0) (show k0 < 3 by omega) (v := τ.1 3 k0) rfl dX8_feeOf_21 ?_
  refine n_i2l hx hb (by omega) dX8_feeOf_22 ?_
  refine W.lcmp hx hb dX8_feeOf_23 ?_
  refine lv_if_le (tgt := 36) hx hb dX8_feeOf_24 (by decide) (fun c24 => ?_) (fun c24 => ?_)
  · refine lv_lload_n hx hb dX8_feeOf_36 rfl (lv_at hl 0 rfl) ?_
    refine lv_l2i hx hb dX8_feeOf_37 (lN_i (v0 * τ.1 2 k0 / 1000)) ?_
    refine m_iret X Y hr hlocks (by decide) (by decide) ?_ dX8_feeOf_38
    rw [lg_cmp_le, lN_le (by omega) (by omega)] at c24
    refine ⟨?_, rfl⟩
    congr 1
    unfold feeN
    split <;> omega
  · refine lv_aload_n hx hb dX8_feeOf_27 rfl (lv_at hl 1 rfl) ?_
    refine m_get (ref := "CardPortModel") (C := RX8) (T := TX8) (N := 25) (ci := 9) X Y htX8_feeOf_wsX801 hg1 rfl 3 (by decide) kwX8_feeOf_3 rfl (v := .ref (g.1 12 3)) rfl dX8_feeOf_28 ?_
    refine lv_iload_n hx hb dX8_feeOf_31 rfl (lv_at hl 2 rfl) ?_
    refine g_iald X Y hG (hpr 12 (by decide)) (k := 3) (by decide) (j := k0) (show k0 < 3 by omega) (v := τ.1 3 k0) rfl dX8_feeOf_32 ?_
    refine lv_goto (tgt := 38) hx hb dX8_feeOf_33 (by decide) ?_
    refine m_iret X Y hr hlocks (by decide) (by decide) ?_ dX8_feeOf_38
    rw [lg_cmp_le, lN_le (by omega) (by omega)] at c24
    refine ⟨?_, rfl⟩
    congr 1
    unfold feeN
    split <;> omega
theorem kwX8_pays_1 : Cond.fieldLink RX8 62 "CardPortModel" "all" "[J" ∈ wsX8_pays := List.mem_of_getElem? (i := 1) rfl
theorem htX8_pays_wsX801 : ∀ w ∈ wsX80, w ∈ wsX8_pays := fun _ h => List.mem_cons_of_mem _ (List.mem_append_right _ h)
theorem kwX8_pays_2 : Cond.fieldLink RX8 66 "CardPortModel" "today" "[J" ∈ wsX8_pays := List.mem_of_getElem? (i := 2) rfl
set_option maxHeartbeats 4000000 in
set_option maxRecDepth 100000 in
theorem c_m_pays (l : Launch) (D : va_G) (kc : Nat → ClassId) (A : Nat → Prop) (e0 : Nat × Nat) (M : Mp) {pr : Nat → Prop} {σ τ : Sg} {th : Int32} {o : Int64} {g : Gh} {nn : Nat} (hG : G pr kc e0 σ τ th o g M) (hwf : WS nn τ) (hpr : ∀ t, t ≤ 13 → pr t) (f0 t0 v0 : Nat) (hf0 : f0 < 4) (ht0 : t0 < 4) (hv0 : v0 < 2147483648) : Met l yX8_pays wsX8_pays ({ frames := 0, cells := 0, slots := 0, locals := 0 }) (mPre D kc A e0 M [.ref (g.1 11 0), .int (nI f0), .int (nI t0), .int (nI v0)]) (va_Qv (fun M1 => G pr kc e0 σ (τ.1, payN τ.2 f0 t0 v0) th o g M1) (mB D A) A) 0 0 A := by
  refine Met.ofW (cc := cX8_pays) (maxL := 4) (ret := none) (by decide) rfl ?_
  intro p e s m args below meth c s₁ B hml hv
  obtain ⟨rfl, hw, hK, hA, hcx⟩ := hv
  have X : mX p s m _ c cX8_pays 4 RX8 wsX8_pays D kc := ⟨⟨B.exec, B.bytes, hml, findClass_of_methodNamed B.named, atoms_spec (ws := wsX8_pays) B.pre⟩, hK⟩
  have hx := B.exec
  have hb := B.bytes
  have hr := B.returns
  have hlocks := B.notSynchronized
  have Y : mY D A M s s.heap [] := ⟨hw, va_S.rf⟩
  have hl := lv_entry ([.ref (g.1 11 0), .int (nI f0), .int (nI t0), .int (nI v0)]) (n := 4) (Nat.le_of_ble_eq_true rfl)
  rw [lg_entry_eq]
  generalize (lg_sl ([.ref (g.1 11 0), .int (nI f0), .int (nI t0), .int (nI v0)]) ++ List.replicate (4 - (lg_sl ([.ref (g.1 11 0), .int (nI f0), .int (nI t0), .int (nI v0)])).length) Slot.unset).toArray = ls at hl ⊢
  have hl : lv_has ls 4 [(0, .ref (g.1 11 0)), (1, .int (nI f0)), (2, .int (nI t0)), (3, .int (nI v0))] := hl
  have hwn := hwf.2.2.2.1
  have hwd := hwf.1
  refine lv_aload_n hx hb dX8_pays_0 rfl (lv_at hl 0 rfl) ?_
  have hg1 := hG.f11 (hpr 11 (by decide))
  refine m_get (ref := "CardPortModel") (C := RX8) (T := TX8) (N := 25) (ci := 9) X Y htX8_pays_wsX801 hg1 rfl 22 (by decide) kwX8_pays_1 rfl (v := .ref (g.1 12 22)) rfl dX8_pays_1 ?_
  refine lv_iload_n hx hb dX8_pays_4 rfl (lv_at hl 1 rfl) ?_
  refine lv_dup2_11 hx hb dX8_pays_5 rfl rfl ?_
  refine g_alld X Y hG (hpr 12 (by decide)) (j := f0) (show f0 < 4 by omega) (v := τ.2 0 f0) rfl dX8_pays_6 ?_
  refine lv_iload_n hx hb dX8_pays_7 rfl (lv_at hl 3 rfl) ?_
  refine n_i2l hx hb (by omega) dX8_pays_8 ?_
  refine lv_lsub hx hb dX8_pays_9 ?_
  refine g_alst X Y hG (hpr 12 (by decide)) (j := f0) (show f0 < 4 by omega) (v := τ.2 0 f0 - (v0 : Int)) (by rw [lN_lI, lI_sub]) dX8_pays_10 (fun M2 H locs hG3 Y => ?_)
  refine lv_aload_n hx hb dX8_pays_11 rfl (lv_at hl 0 rfl) ?_
  have hg4 := hG3.f11 (hpr 11 (by decide))
  refine m_get (ref := "CardPortModel") (C := RX8) (T := TX8) (N := 25) (ci := 9) X Y htX8_pays_wsX801 hg4 rfl 22 (by decide) kwX8_pays_1 rfl (v := .ref (g.1 12 22)) rfl dX8_pays_12 ?_
  refine lv_iload_n hx hb dX8_pays_15 rfl (lv_at hl 2 rfl) ?_
  refine lv_dup2_11 hx hb dX8_pays_16 rfl rfl ?_
  refine g_alld X Y hG3 (hpr 12 (by decide)) (j := t0) (show t0 < 4 by omega) (v := (up2 τ.2 0 f0 (τ.2 0 f0 - (v0 : Int))) 0 t0) rfl dX8_pays_17 ?_
  refine lv_iload_n hx hb dX8_pays_18 rfl (lv_at hl 3 rfl) ?_
  refine n_i2l hx hb (by omega) dX8_pays_19 ?_
  refine lv_ladd hx hb dX8_pays_20 ?_
  refine g_alst X Y hG3 (hpr 12 (by decide)) (j := t0) (show t0 < 4 by omega) (v := (up2 τ.2 0 f0 (τ.2 0 f0 - (v0 : Int))) 0 t0 + (v0 : Int)) (by rw [lN_lI, lI_add]) dX8_pays_21 (fun M5 H locs hG6 Y => ?_)
  refine lv_aload_n hx hb dX8_pays_22 rfl (lv_at hl 0 rfl) ?_
  have hg7 := hG6.f11 (hpr 11 (by decide))
  refine m_get (ref := "CardPortModel") (C := RX8) (T := TX8) (N := 25) (ci := 9) X Y htX8_pays_wsX801 hg7 rfl 23 (by decide) kwX8_pays_2 rfl (v := .ref (g.1 12 23)) rfl dX8_pays_23 ?_
  refine lv_iload_n hx hb dX8_pays_26 rfl (lv_at hl 1 rfl) ?_
  refine lv_dup2_11 hx hb dX8_pays_27 rfl rfl ?_
  refine g_tlld X Y hG6 (hpr 12 (by decide)) (j := f0) (show f0 < 4 by omega) (v := τ.2 1 f0) rfl dX8_pays_28 ?_
  refine lv_iload_n hx hb dX8_pays_29 rfl (lv_at hl 3 rfl) ?_
  refine n_i2l hx hb (by omega) dX8_pays_30 ?_
  refine lv_lsub hx hb dX8_pays_31 ?_
  refine g_tlst X Y hG6 (hpr 12 (by decide)) (j := f0) (show f0 < 4 by omega) (v := τ.2 1 f0 - (v0 : Int)) (by rw [lN_lI, lI_sub]) dX8_pays_32 (fun M8 H locs hG9 Y => ?_)
  refine lv_aload_n hx hb dX8_pays_33 rfl (lv_at hl 0 rfl) ?_
  have hg10 := hG9.f11 (hpr 11 (by decide))
  refine m_get (ref := "CardPortModel") (C := RX8) (T := TX8) (N := 25) (ci := 9) X Y htX8_pays_wsX801 hg10 rfl 23 (by decide) kwX8_pays_2 rfl (v := .ref (g.1 12 23)) rfl dX8_pays_34 ?_
  refine lv_iload_n hx hb dX8_pays_37 rfl (lv_at hl 2 rfl) ?_
  refine lv_dup2_11 hx hb dX8_pays_38 rfl rfl ?_
  refine g_tlld X Y hG9 (hpr 12 (by decide)) (j := t0) (show t0 < 4 by omega) (v := (up2 τ.2 1 f0 (τ.2 1 f0 - (v0 : Int))) 1 t0) rfl dX8_pays_39 ?_
  refine lv_iload_n hx hb dX8_pays_40 rfl (lv_at hl 3 rfl) ?_
  refine n_i2l hx hb (by omega) dX8_pays_41 ?_
  refine lv_ladd hx hb dX8_pays_42 ?_
  refine g_tlst X Y hG9 (hpr 12 (by decide)) (j := t0) (show t0 < 4 by omega) (v := (up2 τ.2 1 f0 (τ.2 1 f0 - (v0 : Int))) 1 t0 + (v0 : Int)) (by rw [lN_lI, lI_add]) dX8_pays_43 (fun M11 H locs hG12 Y => ?_)
  refine m_vret X Y hr hlocks (by decide) (by decide) ?_ dX8_pays_44
  have e9 : (up2 (up2 (up2 (up2 τ.2 0 f0 (τ.2 0 f0 - (v0 : Int))) 0 t0 ((up2 τ.2 0 f0 (τ.2 0 f0 - (v0 : Int))) 0 t0 + (v0 : Int))) 1 f0 (τ.2 1 f0 - (v0 : Int))) 1 t0 ((up2 τ.2 1 f0 (τ.2 1 f0 - (v0 : Int))) 1 t0 + (v0 : Int))) = payN τ.2 f0 t0 v0 := by
    funext t i
    unfold payN up2
    by_cases h1 : t = 1 <;> by_cases h0 : t = 0 <;> by_cases hi : i = f0 <;> by_cases hj : i = t0 <;> by_cases hk : t0 = f0 <;> simp_all <;> omega
  rw [e9] at hG12
  exact hG12
theorem kwX8_givenBack_1 : Cond.fieldLink RX8 47 "CardPortModel" "refunded" "[I" ∈ wsX8_givenBack := List.mem_of_getElem? (i := 1) rfl
theorem htX8_givenBack_wsX801 : ∀ w ∈ wsX80, w ∈ wsX8_givenBack := fun _ h => List.mem_cons_of_mem _ (List.mem_append_right _ h)
theorem kwX8_givenBack_2 : Cond.fieldLink RX8 136 "CardPortModel" "chargebacks" "I" ∈ wsX8_givenBack := List.mem_of_getElem? (i := 2) rfl
theorem kwX8_givenBack_3 : Cond.fieldLink RX8 53 "CardPortModel" "capture" "[I" ∈ wsX8_givenBack := List.mem_of_getElem? (i := 3) rfl
theorem kwX8_givenBack_4 : Cond.fieldLink RX8 50 "CardPortModel" "state" "[I" ∈ wsX8_givenBack := List.mem_of_getElem? (i := 4) rfl
theorem kwX8_givenBack_5 : Cond.fieldLink RX8 56 "CardPortModel" "disputed" "[I" ∈ wsX8_givenBack := List.mem_of_getElem? (i := 5) rfl
set_option maxHeartbeats 4000000 in
set_option maxRecDepth 100000 in
theorem c_m_gb (l : Launch) (D : va_G) (kc : Nat → ClassId) (A : Nat → Prop) (e0 : Nat × Nat) (M : Mp) {pr : Nat → Prop} {σ τ : Sg} {th : Int32} {o : Int64} {g : Gh} {nn : Nat} (hG : G pr kc e0 σ τ th o g M) (hwf : WS nn τ) (hpr : ∀ t, t ≤ 13 → pr t) (k0 : Nat) (hk0 : k0 < nC τ) : Met l yX8_givenBack wsX8_givenBack ({ frames := 0, cells := 0, slots := 0, locals := 0 }) (mPre D kc A e0 M [.ref (g.1 11 0), .int (nI k0)]) (va_Qi (fun r M1 => r = nI (gb τ k0) ∧ M1 = M) (mB D A) A) 0 0 A := by
  refine Met.ofW (cc := cX8_givenBack) (maxL := 4) (ret := (some .int)) (by decide) rfl ?_
  intro p e s m args below meth c s₁ B hml hv
  obtain ⟨rfl, hw, hK, hA, hcx⟩ := hv
  have X : mX p s m _ c cX8_givenBack 4 RX8 wsX8_givenBack D kc := ⟨⟨B.exec, B.bytes, hml, findClass_of_methodNamed B.named, atoms_spec (ws := wsX8_givenBack) B.pre⟩, hK⟩
  have hx := B.exec
  have hb := B.bytes
  have hr := B.returns
  have hlocks := B.notSynchronized
  have Y : mY D A M s s.heap [] := ⟨hw, va_S.rf⟩
  have hl := lv_entry ([.ref (g.1 11 0), .int (nI k0)]) (n := 4) (Nat.le_of_ble_eq_true rfl)
  rw [lg_entry_eq]
  generalize (lg_sl ([.ref (g.1 11 0), .int (nI k0)]) ++ List.replicate (4 - (lg_sl ([.ref (g.1 11 0), .int (nI k0)])).length) Slot.unset).toArray = ls at hl ⊢
  have hl : lv_has ls 4 [(0, .ref (g.1 11 0)), (1, .int (nI k0))] := hl
  have hwn := hwf.2.2.2.1
  have hwd := hwf.1
  refine lv_aload_n hx hb dX8_givenBack_0 rfl (lv_at hl 0 rfl) ?_
  have hg1 := hG.f11 (hpr 11 (by decide))
  refine m_get (ref := "CardPortModel") (C := RX8) (T := TX8) (N := 25) (ci := 9) X Y htX8_givenBack_wsX801 hg1 rfl 15 (by decide) kwX8_givenBack_1 rfl (v := .ref (g.1 12 15)) rfl dX8_givenBack_1 ?_
  refine lv_iload_n hx hb dX8_givenBack_4 rfl (lv_at hl 1 rfl) ?_
  refine g_iald X Y hG (hpr 12 (by decide)) (k := 15) (by decide) (j := k0) (show k0 < 100 by omega) (v := τ.1 15 k0) rfl dX8_givenBack_5 ?_
  refine lv_istore_n (lv' := [(2, .int (nI (τ.1 15 k0))), (0, .ref (g.1 11 0)), (1, .int (nI k0))]) hx hb dX8_givenBack_6 rfl hl (by decide) rfl (fun ls hl => ?_)
  refine n_iconst hx hb 0 dX8_givenBack_7 (by decide) ?_
  refine lv_istore_n (lv' := [(3, .int (nI 0)), (2, .int (nI (τ.1 15 k0))), (0, .ref (g.1 11 0)), (1, .int (nI k0))]) hx hb dX8_givenBack_8 rfl hl (by decide) rfl (fun ls hl => ?_)
  generalize s.heap = H at Y ⊢
  generalize ([] : List Loc) = locs at Y ⊢
  obtain ⟨k, hk0⟩ : ∃ k : Nat, k = 0 := ⟨_, rfl⟩
  replace hl : lv_has ls 4 [(3, .int (nI k)), (2, .int (nI (gbS τ k0 k))), (0, .ref (g.1 11 0)), (1, .int (nI k0))] := by
    rw [hk0]; exact hl
  replace hl : lv_has ls 4 [(0, .ref (g.1 11 0)), (1, .int (nI k0)), (2, .int (nI (gbS τ k0 k))), (3, .int (nI k))] := lv_sub hl [2, 3, 1, 0] rfl
  have hk : k ≤ nB τ := by omega
  clear hk0
  obtain ⟨fu, hfu⟩ : ∃ fu : Nat, fu = nB τ - k := ⟨_, rfl⟩
  induction fu generalizing k H locs ls with
  | zero =>
    obtain rfl : k = nB τ := by omega
    refine lv_iload_n hx hb dX8_givenBack_9 rfl (lv_at hl 3 rfl) ?_
    refine lv_aload_n hx hb dX8_givenBack_10 rfl (lv_at hl 0 rfl) ?_
    refine m_get (ref := "CardPortModel") (C := RX8) (T := TX8) (N := 25) (ci := 9) X Y htX8_givenBack_wsX801 hg1 rfl 16 (by decide) kwX8_givenBack_2 rfl (v := .int (nI (nB τ))) rfl dX8_givenBack_11 ?_
    refine n_icmp_ge hx hb 56 (by omega) (by omega) dX8_givenBack_14 (by decide) (fun _ => ?_) (fun zq => absurd zq (by omega))
    refine lv_iload_n hx hb dX8_givenBack_56 rfl (lv_at hl 2 rfl) ?_
    refine m_iret X Y hr hlocks (by decide) (by decide) ?_ dX8_givenBack_57
    exact ⟨rfl, rfl⟩
  | succ fu ih =>
    have hw9 := hwf.2.2.2.2.2.2.2.2 k (by omega)
    refine lv_iload_n hx hb dX8_givenBack_9 rfl (lv_at hl 3 rfl) ?_
    refine lv_aload_n hx hb dX8_givenBack_10 rfl (lv_at hl 0 rfl) ?_
    refine m_get (ref := "CardPortModel") (C := RX8) (T := TX8) (N := 25) (ci := 9) X Y htX8_givenBack_wsX801 hg1 rfl 16 (by decide) kwX8_givenBack_2 rfl (v := .int (nI (nB τ))) rfl dX8_givenBack_11 ?_
    refine n_icmp_ge hx hb 56 (by omega) (by omega) dX8_givenBack_14 (by decide) (fun zq => absurd zq (by omega)) (fun _ => ?_)
    refine lv_iload_n hx hb dX8_givenBack_17 rfl (lv_at hl 2 rfl) ?_
    refine lv_aload_n hx hb dX8_givenBack_18 rfl (lv_at hl 0 rfl) ?_
    refine m_get (ref := "CardPortModel") (C := RX8) (T := TX8) (N := 25) (ci := 9) X Y htX8_givenBack_wsX801 hg1 rfl 18 (by decide) kwX8_givenBack_3 rfl (v := .ref (g.1 12 18)) rfl dX8_givenBack_19 ?_
    refine lv_iload_n hx hb dX8_givenBack_22 rfl (lv_at hl 3 rfl) ?_
    refine g_iald X Y hG (hpr 12 (by decide)) (k := 18) (by decide) (j := k) (show k < 60 by omega) (v := τ.1 18 k) rfl dX8_givenBack_23 ?_
    refine lv_iload_n hx hb dX8_givenBack_24 rfl (lv_at hl 1 rfl) ?_
    refine n_icmp_ne hx hb 47 (by omega) (by omega) dX8_givenBack_25 (by decide) (fun c25 => ?_) (fun c25 => ?_)
    · refine n_iconst hx hb 0 dX8_givenBack_47 (by decide) ?_
      refine n_iadd hx hb dX8_givenBack_48 ?_
      refine lv_istore_n (lv' := [(2, .int (nI ((gbS τ k0 k) + 0))), (0, .ref (g.1 11 0)), (1, .int (nI k0)), (3, .int (nI k))]) hx hb dX8_givenBack_49 rfl hl (by decide) rfl (fun ls hl => ?_)
      refine lv_iinc (v := (nI (k + 1))) (lv' := [(3, .int (nI (k + 1))), (2, .int (nI ((gbS τ k0 k) + 0))), (0, .ref (g.1 11 0)), (1, .int (nI k0))]) hx hb dX8_givenBack_50 hl (k := 3) rfl (nI_add _ 1) (by decide) rfl (fun ls hl => ?_)
      refine lv_goto (tgt := 9) hx hb dX8_givenBack_53 (by decide) ?_
      have he2 : gbS τ k0 (k + 1) = (gbS τ k0 k) + 0 := by rw [gbS_s, tg, if_neg (fun zq => c25 zq.1)]
      exact ih (k := k + 1) (Y := Y) (hl := by rw [he2]; exact (lv_sub hl [2, 3, 1, 0] rfl)) (hfu := by omega) (hk := by omega)
    · refine lv_aload_n hx hb dX8_givenBack_28 rfl (lv_at hl 0 rfl) ?_
      refine m_get (ref := "CardPortModel") (C := RX8) (T := TX8) (N := 25) (ci := 9) X Y htX8_givenBack_wsX801 hg1 rfl 17 (by decide) kwX8_givenBack_4 rfl (v := .ref (g.1 12 17)) rfl dX8_givenBack_29 ?_
      refine lv_iload_n hx hb dX8_givenBack_32 rfl (lv_at hl 3 rfl) ?_
      refine g_iald X Y hG (hpr 12 (by decide)) (k := 17) (by decide) (j := k) (show k < 60 by omega) (v := τ.1 17 k) rfl dX8_givenBack_33 ?_
      refine n_iconst hx hb 4 dX8_givenBack_34 (by decide) ?_
      refine n_icmp_eq hx hb 47 (by omega) (by omega) dX8_givenBack_35 (by decide) (fun c35 => ?_) (fun c35 => ?_)
      · refine n_iconst hx hb 0 dX8_givenBack_47 (by decide) ?_
        refine n_iadd hx hb dX8_givenBack_48 ?_
        refine lv_istore_n (lv' := [(2, .int (nI ((gbS τ k0 k) + 0))), (0, .ref (g.1 11 0)), (1, .int (nI k0)), (3, .int (nI k))]) hx hb dX8_givenBack_49 rfl hl (by decide) rfl (fun ls hl => ?_)
        refine lv_iinc (v := (nI (k + 1))) (lv' := [(3, .int (nI (k + 1))), (2, .int (nI ((gbS τ k0 k) + 0))), (0, .ref (g.1 11 0)), (1, .int (nI k0))]) hx hb dX8_givenBack_50 hl (k := 3) rfl (nI_add _ 1) (by decide) rfl (fun ls hl => ?_)
        refine lv_goto (tgt := 9) hx hb dX8_givenBack_53 (by decide) ?_
        have he2 : gbS τ k0 (k + 1) = (gbS τ k0 k) + 0 := by rw [gbS_s, tg, if_neg (fun zq => zq.2 c35)]
        exact ih (k := k + 1) (Y := Y) (hl := by rw [he2]; exact (lv_sub hl [2, 3, 1, 0] rfl)) (hfu := by omega) (hk := by omega)
      · refine lv_aload_n hx hb dX8_givenBack_38 rfl (lv_at hl 0 rfl) ?_
        refine m_get (ref := "CardPortModel") (C := RX8) (T := TX8) (N := 25) (ci := 9) X Y htX8_givenBack_wsX801 hg1 rfl 19 (by decide) kwX8_givenBack_5 rfl (v := .ref (g.1 12 19)) rfl dX8_givenBack_39 ?_
        refine lv_iload_n hx hb dX8_givenBack_42 rfl (lv_at hl 3 rfl) ?_
        refine g_iald X Y hG (hpr 12 (by decide)) (k := 19) (by decide) (j := k) (show k < 60 by omega) (v := τ.1 19 k) rfl dX8_givenBack_43 ?_
        refine lv_goto (tgt := 48) hx hb dX8_givenBack_44 (by decide) ?_
        refine n_iadd hx hb dX8_givenBack_48 ?_
        refine lv_istore_n (lv' := [(2, .int (nI ((gbS τ k0 k) + (τ.1 19 k)))), (0, .ref (g.1 11 0)), (1, .int (nI k0)), (3, .int (nI k))]) hx hb dX8_givenBack_49 rfl hl (by decide) rfl (fun ls hl => ?_)
        refine lv_iinc (v := (nI (k + 1))) (lv' := [(3, .int (nI (k + 1))), (2, .int (nI ((gbS τ k0 k) + (τ.1 19 k)))), (0, .ref (g.1 11 0)), (1, .int (nI k0))]) hx hb dX8_givenBack_50 hl (k := 3) rfl (nI_add _ 1) (by decide) rfl (fun ls hl => ?_)
        refine lv_goto (tgt := 9) hx hb dX8_givenBack_53 (by decide) ?_
        have he2 : gbS τ k0 (k + 1) = (gbS τ k0 k) + (τ.1 19 k) := by rw [gbS_s, tg, if_pos ⟨c25, c35⟩]
        exact ih (k := k + 1) (Y := Y) (hl := by rw [he2]; exact (lv_sub hl [2, 3, 1, 0] rfl)) (hfu := by omega) (hk := by omega)
theorem kwX8_canGive_1 : Cond.fieldLink RX8 41 "CardPortModel" "size" "[I" ∈ wsX8_canGive := List.mem_of_getElem? (i := 1) rfl
theorem htX8_canGive_wsX801 : ∀ w ∈ wsX80, w ∈ wsX8_canGive := fun _ h => List.mem_cons_of_mem _ (List.mem_append_right _ h)
set_option maxHeartbeats 4000000 in
set_option maxRecDepth 100000 in
theorem c_m_canGive (l : Launch) (D : va_G) (kc : Nat → ClassId) (A : Nat → Prop) (e0 : Nat × Nat) (M : Mp) {pr : Nat → Prop} {σ τ : Sg} {th : Int32} {o : Int64} {g : Gh} {nn : Nat} (hG : G pr kc e0 σ τ th o g M) (hwf : WS nn τ) (hpr : ∀ t, t ≤ 13 → pr t) (k0 : Nat) (v : Int32) (hk0 : k0 < nC τ) : Met l yX8_canGive wsX8_canGive ({ frames := 2, cells := 0, slots := 0, locals := 43 }) (mPre D kc A e0 M [.ref (g.1 11 0), .int (nI k0), .int v]) (va_Qi (fun r M1 => r = bN (v ≤ nI (τ.1 13 k0 - gb τ k0)) ∧ M1 = M) (mB D A) A) 0 0 A := by
  refine Met.ofW (cc := cX8_canGive) (maxL := 3) (ret := (some .boolean)) (by decide) rfl ?_
  intro p e s m args below meth c s₁ B hml hv
  obtain ⟨rfl, hw, hK, hA, hcx⟩ := hv
  have X : mX p s m _ c cX8_canGive 3 RX8 wsX8_canGive D kc := ⟨⟨B.exec, B.bytes, hml, findClass_of_methodNamed B.named, atoms_spec (ws := wsX8_canGive) B.pre⟩, hK⟩
  have hx := B.exec
  have hb := B.bytes
  have hr := B.returns
  have hlocks := B.notSynchronized
  have Y : mY D A M s s.heap [] := ⟨hw, va_S.rf⟩
  have hl := lv_entry ([.ref (g.1 11 0), .int (nI k0), .int v]) (n := 3) (Nat.le_of_ble_eq_true rfl)
  rw [lg_entry_eq]
  generalize (lg_sl ([.ref (g.1 11 0), .int (nI k0), .int v]) ++ List.replicate (3 - (lg_sl ([.ref (g.1 11 0), .int (nI k0), .int v])).length) Slot.unset).toArray = ls at hl ⊢
  have hl : lv_has ls 3 [(0, .ref (g.1 11 0)), (1, .int (nI k0)), (2, .int v)] := hl
  have hwn := hwf.2.2.2.1
  have hwd := hwf.1
  have hw1 := hwf.2.2.2.2.2.2.1 _ hk0
  refine lv_aload_n hx hb dX8_canGive_0 rfl (lv_at hl 0 rfl) ?_
  refine lv_iload_n hx hb dX8_canGive_1 rfl (lv_at hl 1 rfl) ?_
  have hg1 := hG.f11 (hpr 11 (by decide))
  refine m_rVi (As := [.int (nI k0)]) (rest := []) X Y hA hcx (c_m_isCapture l D kc A e0 M hG hwf hpr (nI k0)) (cwV 1 X.1.2.2.2.2 gX8_canGive_X8_isCapture rfl rfl rfl (by decide +kernel) ⟨Nat.le_of_ble_eq_true rfl, Nat.le_of_ble_eq_true rfl⟩) hg1 rfl rfl rfl hl.1 (Nat.le_of_ble_eq_true rfl) dX8_canGive_2 ⟨by decide, by decide⟩ (fun H locs Y => ?_)
  refine n_top (bN_t (vI_nI hk0 (by omega))) ?_
  refine n_if_eq hx hb 28 (by omega) dX8_canGive_5 (by decide) (fun zq => absurd zq (by decide)) (fun _ => ?_)
  refine lv_iload_n hx hb dX8_canGive_8 rfl (lv_at hl 2 rfl) ?_
  refine lv_aload_n hx hb dX8_canGive_9 rfl (lv_at hl 0 rfl) ?_
  refine m_get (ref := "CardPortModel") (C := RX8) (T := TX8) (N := 25) (ci := 9) X Y htX8_canGive_wsX801 hg1 rfl 13 (by decide) kwX8_canGive_1 rfl (v := .ref (g.1 12 13)) rfl dX8_canGive_10 ?_
  refine lv_iload_n hx hb dX8_canGive_13 rfl (lv_at hl 1 rfl) ?_
  refine g_iald X Y hG (hpr 12 (by decide)) (k := 13) (by decide) (j := k0) (show k0 < 100 by omega) (v := τ.1 13 k0) rfl dX8_canGive_14 ?_
  refine lv_aload_n hx hb dX8_canGive_15 rfl (lv_at hl 0 rfl) ?_
  refine lv_iload_n hx hb dX8_canGive_16 rfl (lv_at hl 1 rfl) ?_
  refine m_rVi (As := [.int (nI k0)]) (rest := [.int (nI (τ.1 13 k0)), .int v]) X Y hA hcx (c_m_gb l D kc A e0 M hG hwf hpr k0 hk0) (cwV 1 X.1.2.2.2.2 gX8_canGive_X8_givenBack rfl rfl rfl (by decide +kernel) ⟨Nat.le_of_ble_eq_true rfl, Nat.le_of_ble_eq_true rfl⟩) hg1 rfl rfl rfl hl.1 (Nat.le_of_ble_eq_true rfl) dX8_canGive_17 ⟨by decide, by decide⟩ (fun H locs Y => ?_)
  refine n_isub hx hb (by omega) dX8_canGive_20 ?_
  refine lv_icmp_gt (tgt := 28) hx hb dX8_canGive_21 (by decide) (fun c21 => ?_) (fun c21 => ?_)
  · refine n_iconst hx hb 0 dX8_canGive_28 (by decide) ?_
    refine m_zret X Y hr hlocks (by decide) (by decide) (by rfl) ?_ dX8_canGive_29
    exact ⟨(bN_f (by simp only [Int32.lt_iff_toInt_lt, Int32.le_iff_toInt_le] at *; omega)).symm, rfl⟩
  · refine n_iconst hx hb 1 dX8_canGive_24 (by decide) ?_
    refine lv_goto (tgt := 29) hx hb dX8_canGive_25 (by decide) ?_
    refine m_zret X Y hr hlocks (by decide) (by decide) (by rfl) ?_ dX8_canGive_29
    exact ⟨(bN_t (by simp only [Int32.lt_iff_toInt_lt, Int32.le_iff_toInt_le] at *; omega)).symm, rfl⟩
set_option maxHeartbeats 4000000 in
set_option maxRecDepth 100000 in
theorem c_m_canGive_n (l : Launch) (D : va_G) (kc : Nat → ClassId) (A : Nat → Prop) (e0 : Nat × Nat) (M : Mp) {pr : Nat → Prop} {σ τ : Sg} {th : Int32} {o : Int64} {g : Gh} {nn : Nat} (hG : G pr kc e0 σ τ th o g M) (hwf : WS nn τ) (hpr : ∀ t, t ≤ 13 → pr t) (x0 v : Int32) (hx0 : vI x0 (nC τ) = false) : Met l yX8_canGive wsX8_canGive ({ frames := 2, cells := 0, slots := 0, locals := 43 }) (mPre D kc A e0 M [.ref (g.1 11 0), .int x0, .int v]) (va_Qi (fun r M1 => r = nI 0 ∧ M1 = M) (mB D A) A) 0 0 A := by
  refine Met.ofW (cc := cX8_canGive) (maxL := 3) (ret := (some .boolean)) (by decide) rfl ?_
  intro p e s m args below meth c s₁ B hml hv
  obtain ⟨rfl, hw, hK, hA, hcx⟩ := hv
  have X : mX p s m _ c cX8_canGive 3 RX8 wsX8_canGive D kc := ⟨⟨B.exec, B.bytes, hml, findClass_of_methodNamed B.named, atoms_spec (ws := wsX8_canGive) B.pre⟩, hK⟩
  have hx := B.exec
  have hb := B.bytes
  have hr := B.returns
  have hlocks := B.notSynchronized
  have Y : mY D A M s s.heap [] := ⟨hw, va_S.rf⟩
  have hl := lv_entry ([.ref (g.1 11 0), .int x0, .int v]) (n := 3) (Nat.le_of_ble_eq_true rfl)
  rw [lg_entry_eq]
  generalize (lg_sl ([.ref (g.1 11 0), .int x0, .int v]) ++ List.replicate (3 - (lg_sl ([.ref (g.1 11 0), .int x0, .int v])).length) Slot.unset).toArray = ls at hl ⊢
  have hl : lv_has ls 3 [(0, .ref (g.1 11 0)), (1, .int x0), (2, .int v)] := hl
  have hwn := hwf.2.2.2.1
  have hwd := hwf.1
  refine lv_aload_n hx hb dX8_canGive_0 rfl (lv_at hl 0 rfl) ?_
  refine lv_iload_n hx hb dX8_canGive_1 rfl (lv_at hl 1 rfl) ?_
  have hg1 := hG.f11 (hpr 11 (by decide))
  refine m_rVi (As := [.int x0]) (rest := []) X Y hA hcx (c_m_isCapture l D kc A e0 M hG hwf hpr x0) (cwV 1 X.1.2.2.2.2 gX8_canGive_X8_isCapture rfl rfl rfl (by decide +kernel) ⟨Nat.le_of_ble_eq_true rfl, Nat.le_of_ble_eq_true rfl⟩) hg1 rfl rfl rfl hl.1 (Nat.le_of_ble_eq_true rfl) dX8_canGive_2 ⟨by decide, by decide⟩ (fun H locs Y => ?_)
  refine n_top (bN_f (by rw [hx0]; decide)) ?_
  refine n_if_eq hx hb 28 (by omega) dX8_canGive_5 (by decide) (fun _ => ?_) (fun zq => absurd zq (by decide))
  refine n_iconst hx hb 0 dX8_canGive_28 (by decide) ?_
  refine m_zret X Y hr hlocks (by decide) (by decide) (by rfl) ?_ dX8_canGive_29
  exact ⟨rfl, rfl⟩
theorem kwX8_paysBack_1 : Cond.fieldLink RX8 53 "CardPortModel" "capture" "[I" ∈ wsX8_paysBack := List.mem_of_getElem? (i := 1) rfl
theorem htX8_paysBack_wsX801 : ∀ w ∈ wsX80, w ∈ wsX8_paysBack := fun _ h => List.mem_cons_of_mem _ (List.mem_append_right _ h)
theorem kwX8_paysBack_2 : Cond.fieldLink RX8 56 "CardPortModel" "disputed" "[I" ∈ wsX8_paysBack := List.mem_of_getElem? (i := 2) rfl
set_option maxHeartbeats 4000000 in
set_option maxRecDepth 100000 in
theorem c_m_paysBack (l : Launch) (D : va_G) (kc : Nat → ClassId) (A : Nat → Prop) (e0 : Nat × Nat) (M : Mp) {pr : Nat → Prop} {σ τ : Sg} {th : Int32} {o : Int64} {g : Gh} {nn : Nat} (hG : G pr kc e0 σ τ th o g M) (hwf : WS nn τ) (hpr : ∀ t, t ≤ 13 → pr t) (c0 : Nat) (hc0 : c0 < nB τ) : Met l yX8_paysBack wsX8_paysBack ({ frames := 1, cells := 0, slots := 0, locals := 23 }) (mPre D kc A e0 M [.ref (g.1 11 0), .int (nI c0)]) (va_Qv (fun M1 => G pr kc e0 σ (τ.1, payN τ.2 (cBk τ (τ.1 18 c0)) (sBk τ (τ.1 18 c0)) (τ.1 19 c0)) th o g M1) (mB D A) A) 0 0 A := by
  refine Met.ofW (cc := cX8_paysBack) (maxL := 2) (ret := none) (by decide) rfl ?_
  intro p e s m args below meth c s₁ B hml hv
  obtain ⟨rfl, hw, hK, hA, hcx⟩ := hv
  have X : mX p s m _ c cX8_paysBack 2 RX8 wsX8_paysBack D kc := ⟨⟨B.exec, B.bytes, hml, findClass_of_methodNamed B.named, atoms_spec (ws := wsX8_paysBack) B.pre⟩, hK⟩
  have hx := B.exec
  have hb := B.bytes
  have hr := B.returns
  have hlocks := B.notSynchronized
  have Y : mY D A M s s.heap [] := ⟨hw, va_S.rf⟩
  have hl := lv_entry ([.ref (g.1 11 0), .int (nI c0)]) (n := 2) (Nat.le_of_ble_eq_true rfl)
  rw [lg_entry_eq]
  generalize (lg_sl ([.ref (g.1 11 0), .int (nI c0)]) ++ List.replicate (2 - (lg_sl ([.ref (g.1 11 0), .int (nI c0)])).length) Slot.unset).toArray = ls at hl ⊢
  have hl : lv_has ls 2 [(0, .ref (g.1 11 0)), (1, .int (nI c0))] := hl
  have hwn := hwf.2.2.2.1
  have hwd := hwf.1
  have hw9 := hwf.2.2.2.2.2.2.2.2 _ hc0
  have hw1 := hwf.2.2.2.2.2.2.1 _ hw9.2.1
  have hw5 := hwf.2.2.2.2.1 _ hw1.1
  refine lv_aload_n hx hb dX8_paysBack_0 rfl (lv_at hl 0 rfl) ?_
  refine lv_aload_n hx hb dX8_paysBack_1 rfl (lv_at hl 0 rfl) ?_
  refine lv_aload_n hx hb dX8_paysBack_2 rfl (lv_at hl 0 rfl) ?_
  have hg1 := hG.f11 (hpr 11 (by decide))
  refine m_get (ref := "CardPortModel") (C := RX8) (T := TX8) (N := 25) (ci := 9) X Y htX8_paysBack_wsX801 hg1 rfl 18 (by decide) kwX8_paysBack_1 rfl (v := .ref (g.1 12 18)) rfl dX8_paysBack_3 ?_
  refine lv_iload_n hx hb dX8_paysBack_6 rfl (lv_at hl 1 rfl) ?_
  refine g_iald X Y hG (hpr 12 (by decide)) (k := 18) (by decide) (j := c0) (show c0 < 60 by omega) (v := τ.1 18 c0) rfl dX8_paysBack_7 ?_
  refine m_rVi (As := [.int (nI (τ.1 18 c0))]) (rest := [.ref (g.1 11 0)]) X Y hA hcx (c_m_cardBank l D kc A e0 M hG hwf hpr (τ.1 18 c0) hw9.2.1) (cwV 1 X.1.2.2.2.2 gX8_paysBack_X8_cardBank rfl rfl rfl (by decide +kernel) ⟨Nat.le_of_ble_eq_true rfl, Nat.le_of_ble_eq_true rfl⟩) hg1 rfl rfl rfl hl.1 (Nat.le_of_ble_eq_true rfl) dX8_paysBack_8 ⟨by decide, by decide⟩ (fun H locs Y => ?_)
  refine lv_aload_n hx hb dX8_paysBack_11 rfl (lv_at hl 0 rfl) ?_
  refine lv_aload_n hx hb dX8_paysBack_12 rfl (lv_at hl 0 rfl) ?_
  refine m_get (ref := "CardPortModel") (C := RX8) (T := TX8) (N := 25) (ci := 9) X Y htX8_paysBack_wsX801 hg1 rfl 18 (by decide) kwX8_paysBack_1 rfl (v := .ref (g.1 12 18)) rfl dX8_paysBack_13 ?_
  refine lv_iload_n hx hb dX8_paysBack_16 rfl (lv_at hl 1 rfl) ?_
  refine g_iald X Y hG (hpr 12 (by decide)) (k := 18) (by decide) (j := c0) (show c0 < 60 by omega) (v := τ.1 18 c0) rfl dX8_paysBack_17 ?_
  refine m_rVi (As := [.int (nI (τ.1 18 c0))]) (rest := [.int (nI (cBk τ (τ.1 18 c0))), .ref (g.1 11 0)]) X Y hA hcx (c_m_shopBank l D kc A e0 M hG hwf hpr (τ.1 18 c0) hw9.2.1) (cwV 1 X.1.2.2.2.2 gX8_paysBack_X8_shopBank rfl rfl rfl (by decide +kernel) ⟨Nat.le_of_ble_eq_true rfl, Nat.le_of_ble_eq_true rfl⟩) hg1 rfl rfl rfl hl.1 (Nat.le_of_ble_eq_true rfl) dX8_paysBack_18 ⟨by decide, by decide⟩ (fun H locs Y => ?_)
  refine lv_aload_n hx hb dX8_paysBack_21 rfl (lv_at hl 0 rfl) ?_
  refine m_get (ref := "CardPortModel") (C := RX8) (T := TX8) (N := 25) (ci := 9) X Y htX8_paysBack_wsX801 hg1 rfl 19 (by decide) kwX8_paysBack_2 rfl (v := .ref (g.1 12 19)) rfl dX8_paysBack_22 ?_
  refine lv_iload_n hx hb dX8_paysBack_25 rfl (lv_at hl 1 rfl) ?_
  refine g_iald X Y hG (hpr 12 (by decide)) (k := 19) (by decide) (j := c0) (show c0 < 60 by omega) (v := τ.1 19 c0) rfl dX8_paysBack_26 ?_
  refine m_Vv (As := [.int (nI (cBk τ (τ.1 18 c0))), .int (nI (sBk τ (τ.1 18 c0))), .int (nI (τ.1 19 c0))]) (rest := []) X Y hA hcx (c_m_pays l D kc A e0 M hG hwf hpr (cBk τ (τ.1 18 c0)) (sBk τ (τ.1 18 c0)) (τ.1 19 c0) (div3 hw5.1) (Nat.mod_lt _ (by decide)) (by omega)) (cwV 3 X.1.2.2.2.2 gX8_paysBack_X8_pays rfl rfl rfl (by decide +kernel) ⟨Nat.le_of_ble_eq_true rfl, Nat.le_of_ble_eq_true rfl⟩) hg1 rfl rfl rfl hl.1 (Nat.le_of_ble_eq_true rfl) dX8_paysBack_27 ⟨by decide, by decide⟩ (fun M2 H locs p3 Y => ?_)
  refine m_vret X Y hr hlocks (by decide) (by decide) ?_ dX8_paysBack_30
  exact p3
theorem kwX8_limitOf_1 : Cond.fieldLink RX8 94 "CardPortModel" "captures" "I" ∈ wsX8_limitOf := List.mem_of_getElem? (i := 1) rfl
theorem htX8_limitOf_wsX801 : ∀ w ∈ wsX80, w ∈ wsX8_limitOf := fun _ h => List.mem_cons_of_mem _ (List.mem_append_right _ h)
theorem kwX8_limitOf_5 : Cond.constantLong RX8 97 (3) ∈ wsX8_limitOf := List.mem_of_getElem? (i := 5) rfl
theorem kwX8_limitOf_6 : Cond.constantLong RX8 99 (500) ∈ wsX8_limitOf := List.mem_of_getElem? (i := 6) rfl
theorem kwX8_limitOf_2 : Cond.fieldLink RX8 19 "CardPortModel" "card" "[I" ∈ wsX8_limitOf := List.mem_of_getElem? (i := 2) rfl
theorem kwX8_limitOf_3 : Cond.fieldLink RX8 38 "CardPortModel" "payment" "[I" ∈ wsX8_limitOf := List.mem_of_getElem? (i := 3) rfl
theorem kwX8_limitOf_4 : Cond.fieldLink RX8 41 "CardPortModel" "size" "[I" ∈ wsX8_limitOf := List.mem_of_getElem? (i := 4) rfl
set_option maxHeartbeats 4000000 in
set_option maxRecDepth 100000 in
theorem c_m_limitOf (l : Launch) (D : va_G) (kc : Nat → ClassId) (A : Nat → Prop) (e0 : Nat × Nat) (M : Mp) {pr : Nat → Prop} {σ τ : Sg} {th : Int32} {o : Int64} {g : Gh} {nn : Nat} (hG : G pr kc e0 σ τ th o g M) (hwf : WS nn τ) (hpr : ∀ t, t ≤ 13 → pr t) (cd : Nat) (hcd : cd < 12) : Met l yX8_limitOf wsX8_limitOf ({ frames := 0, cells := 0, slots := 0, locals := 0 }) (mPre D kc A e0 M [.ref (g.1 11 0), .int (nI cd)]) (va_Qi (fun r M1 => r = nI (limN τ cd) ∧ M1 = M) (mB D A) A) 0 0 A := by
  refine Met.ofW (cc := cX8_limitOf) (maxL := 7) (ret := (some .int)) (by decide) rfl ?_
  intro p e s m args below meth c s₁ B hml hv
  obtain ⟨rfl, hw, hK, hA, hcx⟩ := hv
  have X : mX p s m _ c cX8_limitOf 7 RX8 wsX8_limitOf D kc := ⟨⟨B.exec, B.bytes, hml, findClass_of_methodNamed B.named, atoms_spec (ws := wsX8_limitOf) B.pre⟩, hK⟩
  have hx := B.exec
  have hb := B.bytes
  have hr := B.returns
  have hlocks := B.notSynchronized
  have Y : mY D A M s s.heap [] := ⟨hw, va_S.rf⟩
  have hl := lv_entry ([.ref (g.1 11 0), .int (nI cd)]) (n := 7) (Nat.le_of_ble_eq_true rfl)
  rw [lg_entry_eq]
  generalize (lg_sl ([.ref (g.1 11 0), .int (nI cd)]) ++ List.replicate (7 - (lg_sl ([.ref (g.1 11 0), .int (nI cd)])).length) Slot.unset).toArray = ls at hl ⊢
  have hl : lv_has ls 7 [(0, .ref (g.1 11 0)), (1, .int (nI cd))] := hl
  have hwn := hwf.2.2.2.1
  have hwd := hwf.1
  refine n_iconst hx hb 0 dX8_limitOf_0 (by decide) ?_
  refine lv_istore_n (lv' := [(2, .int (nI 0)), (0, .ref (g.1 11 0)), (1, .int (nI cd))]) hx hb dX8_limitOf_1 rfl hl (by decide) rfl (fun ls hl => ?_)
  refine lv_lconst (v := 0) hx hb dX8_limitOf_2 (by decide) ?_
  refine lv_lstore_n (lv' := [(3, .long 0), (2, .int (nI 0)), (0, .ref (g.1 11 0)), (1, .int (nI cd))]) hx hb dX8_limitOf_3 rfl hl (by decide) rfl (fun ls hl => ?_)
  refine lv_aload_n hx hb dX8_limitOf_4 rfl (lv_at hl 2 rfl) ?_
  have hg1 := hG.f11 (hpr 11 (by decide))
  refine m_get (ref := "CardPortModel") (C := RX8) (T := TX8) (N := 25) (ci := 9) X Y htX8_limitOf_wsX801 hg1 rfl 11 (by decide) kwX8_limitOf_1 rfl (v := .int (nI (nC τ))) rfl dX8_limitOf_5 ?_
  refine n_iconst hx hb 1 dX8_limitOf_8 (by decide) ?_
  refine lv_isub hx hb dX8_limitOf_9 ?_
  refine lv_istore (lv' := [(5, .int ((nI (nC τ)) - (nI 1))), (3, .long 0), (2, .int (nI 0)), (0, .ref (g.1 11 0)), (1, .int (nI cd))]) hx hb dX8_limitOf_10 hl (by decide) rfl (fun ls hl => ?_)
  generalize s.heap = H at Y ⊢
  generalize ([] : List Loc) = locs at Y ⊢
  obtain ⟨k, hk0⟩ : ∃ k : Nat, k = nC τ := ⟨_, rfl⟩
  obtain ⟨sm, hs0⟩ : ∃ sm : Nat, sm = 0 := ⟨_, rfl⟩
  obtain ⟨fn, hf0⟩ : ∃ fn : Nat, fn = 0 := ⟨_, rfl⟩
  replace hl : lv_has ls 7 [(5, .int (nI k - nI 1)), (3, .long (lN sm)), (2, .int (nI fn)), (0, .ref (g.1 11 0)), (1, .int (nI cd))] := by rw [hk0, hs0, hf0]; exact hl
  replace hl : lv_has ls 7 [(0, .ref (g.1 11 0)), (1, .int (nI cd)), (2, .int (nI fn)), (3, .long (lN sm)), (5, .int (nI k - nI 1))] := lv_sub hl [3, 4, 2, 1, 0] rfl
  have hinv : lmL τ cd k sm fn = lmL τ cd (nC τ) 0 0 := by rw [hk0, hs0, hf0]
  have hk : k ≤ nC τ := by omega
  have hsm : sm ≤ 100000 * fn := by omega
  have hfn : fn ≤ 5 := by omega
  clear hk0 hs0 hf0
  obtain ⟨fu, hfu⟩ : ∃ fu : Nat, fu = k := ⟨_, rfl⟩
  induction fu generalizing k sm fn H locs ls with
  | zero =>
    have hk0 : k = 0 := by omega
    subst hk0
    have hlim : limN τ cd = limO (sm, fn) := by unfold limN; rw [← hinv]; rfl
    refine lv_iload hx hb dX8_limitOf_12 (lv_at hl 4 rfl) ?_
    refine lv_if_lt (tgt := 58) hx hb dX8_limitOf_14 (by decide) (fun _ => ?_) (fun zq => absurd nI_m0 zq)
    refine lv_iload_n hx hb dX8_limitOf_58 rfl (lv_at hl 2 rfl) ?_
    refine n_if_ne hx hb 66 (by omega) dX8_limitOf_59 (by decide) (fun c59 => ?_) (fun c59 => ?_)
    · have hfz : ¬ lN fn = 0 := by rw [show (0 : Int64) = lN 0 from rfl, lN_eq (by omega) (by omega)]; omega
      refine lv_ldc2 hx hb X.1.2.2.2.1 (X.1.2.2.2.2 _ kwX8_limitOf_5) dX8_limitOf_66 ?_
      refine lv_lload_n hx hb dX8_limitOf_69 rfl (lv_at hl 3 rfl) ?_
      refine lv_lmul hx hb dX8_limitOf_70 ?_
      refine lv_iload_n hx hb dX8_limitOf_71 rfl (lv_at hl 2 rfl) ?_
      refine n_i2l hx hb (by omega) dX8_limitOf_72 ?_
      refine lv_ldiv hx hb dX8_limitOf_73 hfz ?_
      have hdv : 3 * sm / fn ≤ 3 * sm := Nat.div_le_self _ _
      refine n_topl (y := lN (3 * sm / fn)) (by rw [show (3 : Int64) = lN 3 from rfl, lN_mul, lN_div (by omega) (by omega)]) ?_
      refine lv_lstore (lv' := [(5, .long (lN (3 * sm / fn))), (0, .ref (g.1 11 0)), (1, .int (nI cd)), (2, .int (nI fn)), (3, .long (lN sm))]) hx hb dX8_limitOf_74 hl (by decide) rfl (fun ls hl => ?_)
      refine lv_lload hx hb dX8_limitOf_76 (lv_at hl 0 rfl) ?_
      refine lv_ldc2 hx hb X.1.2.2.2.1 (X.1.2.2.2.2 _ kwX8_limitOf_6) dX8_limitOf_78 ?_
      refine W.lcmp hx hb dX8_limitOf_81 ?_
      refine lv_if_ge (tgt := 91) hx hb dX8_limitOf_82 (by decide) (fun c82 => ?_) (fun c82 => ?_)
      · refine lv_lload hx hb dX8_limitOf_91 (lv_at hl 0 rfl) ?_
        refine lv_l2i hx hb dX8_limitOf_93 (lN_i (3 * sm / fn)) ?_
        refine m_iret X Y hr hlocks (by decide) (by decide) ?_ dX8_limitOf_94
        rw [← Int32.not_lt, lg_cmp_lt, show (500 : Int64) = lN 500 from rfl, lN_lt (by omega) (by omega)] at c82
        refine ⟨?_, rfl⟩
        rw [hlim]
        have hz : ¬ fn = 0 := by omega
        unfold limO
        simp only
        rw [if_neg hz]
        congr 1
        split <;> omega
      · refine n_sipush hx hb 500 dX8_limitOf_85 (by decide) ?_
        refine lv_goto (tgt := 94) hx hb dX8_limitOf_88 (by decide) ?_
        refine m_iret X Y hr hlocks (by decide) (by decide) ?_ dX8_limitOf_94
        rw [Int32.not_le, lg_cmp_lt, show (500 : Int64) = lN 500 from rfl, lN_lt (by omega) (by omega)] at c82
        refine ⟨?_, rfl⟩
        rw [hlim]
        have hz : ¬ fn = 0 := by omega
        unfold limO
        simp only
        rw [if_neg hz]
        congr 1
        split <;> omega
    · refine n_sipush hx hb 10000 dX8_limitOf_62 (by decide) ?_
      refine m_iret X Y hr hlocks (by decide) (by decide) ?_ dX8_limitOf_65
      refine ⟨?_, rfl⟩
      rw [hlim]
      have hz : fn = 0 := by omega
      simp [limO, hz]
  | succ fu ih =>
    obtain ⟨k, rfl⟩ : ∃ k2 : Nat, k = k2 + 1 := ⟨k - 1, by omega⟩
    rw [nI_m1] at hl
    have hw1 := hwf.2.2.2.2.2.2.1 k (by omega)
    have hw5 := hwf.2.2.2.2.1 _ hw1.1
    refine lv_iload hx hb dX8_limitOf_12 (lv_at hl 4 rfl) ?_
    refine lv_if_lt (tgt := 58) hx hb dX8_limitOf_14 (by decide) (fun zq => absurd zq (nI_pos (by omega))) (fun _ => ?_)
    refine lv_iload_n hx hb dX8_limitOf_17 rfl (lv_at hl 2 rfl) ?_
    refine n_iconst hx hb 5 dX8_limitOf_18 (by decide) ?_
    refine n_icmp_ge hx hb 58 (by omega) (by omega) dX8_limitOf_19 (by decide) (fun c19 => ?_) (fun c19 => ?_)
    · have hlim : limN τ cd = limO (sm, fn) := by unfold limN; rw [← hinv]; rw [lmL, if_neg (by omega)]
      refine lv_iload_n hx hb dX8_limitOf_58 rfl (lv_at hl 2 rfl) ?_
      refine n_if_ne hx hb 66 (by omega) dX8_limitOf_59 (by decide) (fun c59 => ?_) (fun c59 => ?_)
      · have hfz : ¬ lN fn = 0 := by rw [show (0 : Int64) = lN 0 from rfl, lN_eq (by omega) (by omega)]; omega
        refine lv_ldc2 hx hb X.1.2.2.2.1 (X.1.2.2.2.2 _ kwX8_limitOf_5) dX8_limitOf_66 ?_
        refine lv_lload_n hx hb dX8_limitOf_69 rfl (lv_at hl 3 rfl) ?_
        refine lv_lmul hx hb dX8_limitOf_70 ?_
        refine lv_iload_n hx hb dX8_limitOf_71 rfl (lv_at hl 2 rfl) ?_
        refine n_i2l hx hb (by omega) dX8_limitOf_72 ?_
        refine lv_ldiv hx hb dX8_limitOf_73 hfz ?_
        have hdv : 3 * sm / fn ≤ 3 * sm := Nat.div_le_self _ _
        refine n_topl (y := lN (3 * sm / fn)) (by rw [show (3 : Int64) = lN 3 from rfl, lN_mul, lN_div (by omega) (by omega)]) ?_
        refine lv_lstore (lv' := [(5, .long (lN (3 * sm / fn))), (0, .ref (g.1 11 0)), (1, .int (nI cd)), (2, .int (nI fn)), (3, .long (lN sm))]) hx hb dX8_limitOf_74 hl (by decide) rfl (fun ls hl => ?_)
        refine lv_lload hx hb dX8_limitOf_76 (lv_at hl 0 rfl) ?_
        refine lv_ldc2 hx hb X.1.2.2.2.1 (X.1.2.2.2.2 _ kwX8_limitOf_6) dX8_limitOf_78 ?_
        refine W.lcmp hx hb dX8_limitOf_81 ?_
        refine lv_if_ge (tgt := 91) hx hb dX8_limitOf_82 (by decide) (fun c82 => ?_) (fun c82 => ?_)
        · refine lv_lload hx hb dX8_limitOf_91 (lv_at hl 0 rfl) ?_
          refine lv_l2i hx hb dX8_limitOf_93 (lN_i (3 * sm / fn)) ?_
          refine m_iret X Y hr hlocks (by decide) (by decide) ?_ dX8_limitOf_94
          rw [← Int32.not_lt, lg_cmp_lt, show (500 : Int64) = lN 500 from rfl, lN_lt (by omega) (by omega)] at c82
          refine ⟨?_, rfl⟩
          rw [hlim]
          have hz : ¬ fn = 0 := by omega
          unfold limO
          simp only
          rw [if_neg hz]
          congr 1
          split <;> omega
        · refine n_sipush hx hb 500 dX8_limitOf_85 (by decide) ?_
          refine lv_goto (tgt := 94) hx hb dX8_limitOf_88 (by decide) ?_
          refine m_iret X Y hr hlocks (by decide) (by decide) ?_ dX8_limitOf_94
          rw [Int32.not_le, lg_cmp_lt, show (500 : Int64) = lN 500 from rfl, lN_lt (by omega) (by omega)] at c82
          refine ⟨?_, rfl⟩
          rw [hlim]
          have hz : ¬ fn = 0 := by omega
          unfold limO
          simp only
          rw [if_neg hz]
          congr 1
          split <;> omega
      · refine n_sipush hx hb 10000 dX8_limitOf_62 (by decide) ?_
        refine m_iret X Y hr hlocks (by decide) (by decide) ?_ dX8_limitOf_65
        refine ⟨?_, rfl⟩
        rw [hlim]
        have hz : fn = 0 := by omega
        simp [limO, hz]
    · refine lv_aload_n hx hb dX8_limitOf_22 rfl (lv_at hl 0 rfl) ?_
      refine m_get (ref := "CardPortModel") (C := RX8) (T := TX8) (N := 25) (ci := 9) X Y htX8_limitOf_wsX801 hg1 rfl 5 (by decide) kwX8_limitOf_2 rfl (v := .ref (g.1 12 5)) rfl dX8_limitOf_23 ?_
      refine lv_aload_n hx hb dX8_limitOf_26 rfl (lv_at hl 0 rfl) ?_
      refine m_get (ref := "CardPortModel") (C := RX8) (T := TX8) (N := 25) (ci := 9) X Y htX8_limitOf_wsX801 hg1 rfl 12 (by decide) kwX8_limitOf_3 rfl (v := .ref (g.1 12 12)) rfl dX8_limitOf_27 ?_
      refine lv_iload hx hb dX8_limitOf_30 (lv_at hl 4 rfl) ?_
      refine g_iald X Y hG (hpr 12 (by decide)) (k := 12) (by decide) (j := k) (show k < 100 by omega) (v := τ.1 12 k) rfl dX8_limitOf_32 ?_
      refine g_iald X Y hG (hpr 12 (by decide)) (k := 5) (by decide) (j := τ.1 12 k) (show τ.1 12 k < 60 by omega) (v := τ.1 5 (τ.1 12 k)) rfl dX8_limitOf_33 ?_
      refine lv_iload_n hx hb dX8_limitOf_34 rfl (lv_at hl 1 rfl) ?_
      refine n_icmp_ne hx hb 52 (by omega) (by omega) dX8_limitOf_35 (by decide) (fun c35 => ?_) (fun c35 => ?_)
      · refine lv_iinc (v := nI k - nI 1) (lv' := [(5, .int (nI k - nI 1)), (0, .ref (g.1 11 0)), (1, .int (nI cd)), (2, .int (nI fn)), (3, .long (lN sm))]) hx hb dX8_limitOf_52 hl (k := 4) rfl (nI_m1' k) (by decide) rfl (fun ls hl => ?_)
        refine lv_goto (tgt := 12) hx hb dX8_limitOf_55 (by decide) ?_
        exact ih (k := k) (sm := sm) (fn := fn) (Y := Y) (hl := (lv_sub hl [1, 2, 3, 4, 0] rfl)) (hfu := by omega) (hk := by omega) (hsm := by omega) (hfn := by omega) (hinv := by rw [← hinv]; conv => rhs; rw [lmL, if_pos (by omega), if_neg c35])
      · refine lv_lload_n hx hb dX8_limitOf_38 rfl (lv_at hl 3 rfl) ?_
        refine lv_aload_n hx hb dX8_limitOf_39 rfl (lv_at hl 0 rfl) ?_
        refine m_get (ref := "CardPortModel") (C := RX8) (T := TX8) (N := 25) (ci := 9) X Y htX8_limitOf_wsX801 hg1 rfl 13 (by decide) kwX8_limitOf_4 rfl (v := .ref (g.1 12 13)) rfl dX8_limitOf_40 ?_
        refine lv_iload hx hb dX8_limitOf_43 (lv_at hl 4 rfl) ?_
        refine g_iald X Y hG (hpr 12 (by decide)) (k := 13) (by decide) (j := k) (show k < 100 by omega) (v := τ.1 13 k) rfl dX8_limitOf_45 ?_
        refine n_i2l hx hb (by omega) dX8_limitOf_46 ?_
        refine lv_ladd hx hb dX8_limitOf_47 ?_
        refine lv_lstore_n (lv' := [(3, .long ((lN sm) + (lN (τ.1 13 k)))), (0, .ref (g.1 11 0)), (1, .int (nI cd)), (2, .int (nI fn)), (5, .int (nI k))]) hx hb dX8_limitOf_48 rfl hl (by decide) rfl (fun ls hl => ?_)
        refine lv_iinc (v := (nI (fn + 1))) (lv' := [(2, .int (nI (fn + 1))), (3, .long ((lN sm) + (lN (τ.1 13 k)))), (0, .ref (g.1 11 0)), (1, .int (nI cd)), (5, .int (nI k))]) hx hb dX8_limitOf_49 hl (k := 3) rfl (nI_add _ 1) (by decide) rfl (fun ls hl => ?_)
        refine lv_iinc (v := nI k - nI 1) (lv' := [(5, .int (nI k - nI 1)), (2, .int (nI (fn + 1))), (3, .long ((lN sm) + (lN (τ.1 13 k)))), (0, .ref (g.1 11 0)), (1, .int (nI cd))]) hx hb dX8_limitOf_52 hl (k := 4) rfl (nI_m1' k) (by decide) rfl (fun ls hl => ?_)
        refine lv_goto (tgt := 12) hx hb dX8_limitOf_55 (by decide) ?_
        exact ih (k := k) (sm := sm + τ.1 13 k) (fn := fn + 1) (Y := Y) (hl := by rw [← lN_add]; exact (lv_sub hl [3, 4, 1, 2, 0] rfl)) (hfu := by omega) (hk := by omega) (hsm := by omega) (hfn := by omega) (hinv := by rw [← hinv]; conv => rhs; rw [lmL, if_pos (by omega), if_pos c35])
