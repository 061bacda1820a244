theorem bN_nar (c : Prop) [Decidable c] : narrow .boolean (.int (bN c)) = .int (bN c) := by
  unfold bN; split <;> rfl
theorem bN_c {a b : Prop} [Decidable a] [Decidable b] (h : a ↔ b) : bN a = bN b := by
  unfold bN
  by_cases z : a
  · rw [if_pos z, if_pos (h.mp z)]
  · rw [if_neg z, if_neg (fun y => z (h.mpr y))]
set_option maxHeartbeats 4000000 in
set_option maxRecDepth 100000 in
theorem c_m_isIn (l : Launch) (D : va_G) (kc : Nat → ClassId) (A : Nat → Prop) (e0 : Nat × Nat) (M : Mp) (v : Int32) (lo : Nat) (hi : Int32) : Met l yX8_isIn wsX8_isIn ({ frames := 0, cells := 0, slots := 0, locals := 0 }) (mPre D kc A e0 M [.int v, .int (nI lo), .int hi]) (va_Qi (fun r M1 => r = bN (nI lo ≤ v ∧ v ≤ hi) ∧ M1 = M) (mB D A) A) 0 0 A := by
  refine Met.ofW (cc := cX8_isIn) (maxL := 3) (ret := (some .boolean)) (by decide) rfl ?_
  intro p e s m args below meth c s₁ B hml hv
  obtain ⟨rfl, hw, hK, hA, hcx⟩ := hv
  have X : mX p s m _ c cX8_isIn 3 RX8 wsX8_isIn D kc := ⟨⟨B.exec, B.bytes, hml, findClass_of_methodNamed B.named, atoms_spec (ws := wsX8_isIn) B.pre⟩, hK⟩
  have hx := B.exec
  have hb := B.bytes
  have hr := B.returns
  have hlocks := B.notSynchronized
  have Y : mY D A M s s.heap [] := ⟨hw, va_S.rf⟩
  have hl := lv_entry ([.int v, .int (nI lo), .int hi]) (n := 3) (Nat.le_of_ble_eq_true rfl)
  rw [lg_entry_eq]
  generalize (lg_sl ([.int v, .int (nI lo), .int hi]) ++ List.replicate (3 - (lg_sl ([.int v, .int (nI lo), .int hi])).length) Slot.unset).toArray = ls at hl ⊢
  have hl : lv_has ls 3 [(0, .int v), (1, .int (nI lo)), (2, .int hi)] := hl
  refine lv_iload_n hx hb dX8_isIn_0 rfl (lv_at hl 0 rfl) ?_
  refine lv_iload_n hx hb dX8_isIn_1 rfl (lv_at hl 1 rfl) ?_
  refine lv_icmp_lt (tgt := 14) hx hb dX8_isIn_2 (by decide) (fun c2 => ?_) (fun c2 => ?_)
  · refine n_iconst hx hb 0 dX8_isIn_14 (by decide) ?_
    refine m_zret X Y hr hlocks (by decide) (by decide) (by rfl) ?_ dX8_isIn_15
    exact ⟨(bN_f (by simp only [Int32.lt_iff_toInt_lt, Int32.le_iff_toInt_le] at *; omega)).symm, rfl⟩
  · refine lv_iload_n hx hb dX8_isIn_5 rfl (lv_at hl 0 rfl) ?_
    refine lv_iload_n hx hb dX8_isIn_6 rfl (lv_at hl 2 rfl) ?_
    refine lv_icmp_gt (tgt := 14) hx hb dX8_isIn_7 (by decide) (fun c7 => ?_) (fun c7 => ?_)
    · refine n_iconst hx hb 0 dX8_isIn_14 (by decide) ?_
      refine m_zret X Y hr hlocks (by decide) (by decide) (by rfl) ?_ dX8_isIn_15
      exact ⟨(bN_f (by simp only [Int32.lt_iff_toInt_lt, Int32.le_iff_toInt_le] at *; omega)).symm, rfl⟩
    · refine n_iconst hx hb 1 dX8_isIn_10 (by decide) ?_
      refine lv_goto (tgt := 15) hx hb dX8_isIn_11 (by decide) ?_
      refine m_zret X Y hr hlocks (by decide) (by decide) (by rfl) ?_ dX8_isIn_15
      exact ⟨(bN_t (by simp only [Int32.lt_iff_toInt_lt, Int32.le_iff_toInt_le] at *; omega)).symm, rfl⟩
set_option maxHeartbeats 4000000 in
set_option maxRecDepth 100000 in
theorem c_m_isShop (l : Launch) (D : va_G) (kc : Nat → ClassId) (A : Nat → Prop) (e0 : Nat × Nat) (M : Mp) (v : Int32) : Met l yX8_isShop wsX8_isShop ({ frames := 1, cells := 0, slots := 0, locals := 22 }) (mPre D kc A e0 M [.int v]) (va_Qi (fun r M1 => r = bN (vI v 8 = true) ∧ M1 = M) (mB D A) A) 0 0 A := by
  refine Met.ofW (cc := cX8_isShop) (maxL := 1) (ret := (some .boolean)) (by decide) rfl ?_
  intro p e s m args below meth c s₁ B hml hv
  obtain ⟨rfl, hw, hK, hA, hcx⟩ := hv
  have X : mX p s m _ c cX8_isShop 1 RX8 wsX8_isShop D kc := ⟨⟨B.exec, B.bytes, hml, findClass_of_methodNamed B.named, atoms_spec (ws := wsX8_isShop) B.pre⟩, hK⟩
  have hx := B.exec
  have hb := B.bytes
  have hr := B.returns
  have hlocks := B.notSynchronized
  have Y : mY D A M s s.heap [] := ⟨hw, va_S.rf⟩
  have hl := lv_entry ([.int v]) (n := 1) (Nat.le_of_ble_eq_true rfl)
  rw [lg_entry_eq]
  generalize (lg_sl ([.int v]) ++ List.replicate (1 - (lg_sl ([.int v])).length) Slot.unset).toArray = ls at hl ⊢
  have hl : lv_has ls 1 [(0, .int v)] := hl
  refine lv_iload_n hx hb dX8_isShop_0 rfl (lv_at hl 0 rfl) ?_
  refine n_iconst hx hb 0 dX8_isShop_1 (by decide) ?_
  refine n_bipush hx hb 7 dX8_isShop_2 (by decide) ?_
  refine m_rSi (As := [.int v, .int (nI 0), .int (nI 7)]) (rest := []) X Y hA hcx (c_m_isIn l D kc A e0 M v 0 (nI 7)) (va_cwS 3 X.1.2.2.2.2 gX8_isShop_X8_isIn rfl rfl rfl (by decide +kernel) ⟨Nat.le_of_ble_eq_true rfl, Nat.le_of_ble_eq_true rfl⟩) rfl rfl hl.1 (Nat.le_of_ble_eq_true rfl) dX8_isShop_4 ⟨by decide, by decide⟩ (fun H locs Y => ?_)
  refine m_zret X Y hr hlocks (by decide) (by decide) (bN_nar _) ?_ dX8_isShop_7
  exact ⟨bN_c (isIn_vI2 (by decide)), rfl⟩
set_option maxHeartbeats 4000000 in
set_option maxRecDepth 100000 in
theorem c_m_isKind (l : Launch) (D : va_G) (kc : Nat → ClassId) (A : Nat → Prop) (e0 : Nat × Nat) (M : Mp) (v : Int32) : Met l yX8_isKind wsX8_isKind ({ frames := 1, cells := 0, slots := 0, locals := 22 }) (mPre D kc A e0 M [.int v]) (va_Qi (fun r M1 => r = bN (vI v 3 = true) ∧ M1 = M) (mB D A) A) 0 0 A := by
  refine Met.ofW (cc := cX8_isKind) (maxL := 1) (ret := (some .boolean)) (by decide) rfl ?_
  intro p e s m args below meth c s₁ B hml hv
  obtain ⟨rfl, hw, hK, hA, hcx⟩ := hv
  have X : mX p s m _ c cX8_isKind 1 RX8 wsX8_isKind D kc := ⟨⟨B.exec, B.bytes, hml, findClass_of_methodNamed B.named, atoms_spec (ws := wsX8_isKind) B.pre⟩, hK⟩
  have hx := B.exec
  have hb := B.bytes
  have hr := B.returns
  have hlocks := B.notSynchronized
  have Y : mY D A M s s.heap [] := ⟨hw, va_S.rf⟩
  have hl := lv_entry ([.int v]) (n := 1) (Nat.le_of_ble_eq_true rfl)
  rw [lg_entry_eq]
  generalize (lg_sl ([.int v]) ++ List.replicate (1 - (lg_sl ([.int v])).length) Slot.unset).toArray = ls at hl ⊢
  have hl : lv_has ls 1 [(0, .int v)] := hl
  refine lv_iload_n hx hb dX8_isKind_0 rfl (lv_at hl 0 rfl) ?_
  refine n_iconst hx hb 0 dX8_isKind_1 (by decide) ?_
  refine n_iconst hx hb 2 dX8_isKind_2 (by decide) ?_
  refine m_rSi (As := [.int v, .int (nI 0), .int (nI 2)]) (rest := []) X Y hA hcx (c_m_isIn l D kc A e0 M v 0 (nI 2)) (va_cwS 3 X.1.2.2.2.2 gX8_isKind_X8_isIn rfl rfl rfl (by decide +kernel) ⟨Nat.le_of_ble_eq_true rfl, Nat.le_of_ble_eq_true rfl⟩) rfl rfl hl.1 (Nat.le_of_ble_eq_true rfl) dX8_isKind_3 ⟨by decide, by decide⟩ (fun H locs Y => ?_)
  refine m_zret X Y hr hlocks (by decide) (by decide) (bN_nar _) ?_ dX8_isKind_6
  exact ⟨bN_c (isIn_vI2 (by decide)), rfl⟩
set_option maxHeartbeats 4000000 in
set_option maxRecDepth 100000 in
theorem c_m_isCard (l : Launch) (D : va_G) (kc : Nat → ClassId) (A : Nat → Prop) (e0 : Nat × Nat) (M : Mp) (v : Int32) : Met l yX8_isCard wsX8_isCard ({ frames := 1, cells := 0, slots := 0, locals := 22 }) (mPre D kc A e0 M [.int v]) (va_Qi (fun r M1 => r = bN (vI v 12 = true) ∧ M1 = M) (mB D A) A) 0 0 A := by
  refine Met.ofW (cc := cX8_isCard) (maxL := 1) (ret := (some .boolean)) (by decide) rfl ?_
  intro p e s m args below meth c s₁ B hml hv
  obtain ⟨rfl, hw, hK, hA, hcx⟩ := hv
  have X : mX p s m _ c cX8_isCard 1 RX8 wsX8_isCard D kc := ⟨⟨B.exec, B.bytes, hml, findClass_of_methodNamed B.named, atoms_spec (ws := wsX8_isCard) B.pre⟩, hK⟩
  have hx := B.exec
  have hb := B.bytes
  have hr := B.returns
  have hlocks := B.notSynchronized
  have Y : mY D A M s s.heap [] := ⟨hw, va_S.rf⟩
  have hl := lv_entry ([.int v]) (n := 1) (Nat.le_of_ble_eq_true rfl)
  rw [lg_entry_eq]
  generalize (lg_sl ([.int v]) ++ List.replicate (1 - (lg_sl ([.int v])).length) Slot.unset).toArray = ls at hl ⊢
  have hl : lv_has ls 1 [(0, .int v)] := hl
  refine lv_iload_n hx hb dX8_isCard_0 rfl (lv_at hl 0 rfl) ?_
  refine n_iconst hx hb 0 dX8_isCard_1 (by decide) ?_
  refine n_bipush hx hb 11 dX8_isCard_2 (by decide) ?_
  refine m_rSi (As := [.int v, .int (nI 0), .int (nI 11)]) (rest := []) X Y hA hcx (c_m_isIn l D kc A e0 M v 0 (nI 11)) (va_cwS 3 X.1.2.2.2.2 gX8_isCard_X8_isIn rfl rfl rfl (by decide +kernel) ⟨Nat.le_of_ble_eq_true rfl, Nat.le_of_ble_eq_true rfl⟩) rfl rfl hl.1 (Nat.le_of_ble_eq_true rfl) dX8_isCard_4 ⟨by decide, by decide⟩ (fun H locs Y => ?_)
  refine m_zret X Y hr hlocks (by decide) (by decide) (bN_nar _) ?_ dX8_isCard_7
  exact ⟨bN_c (isIn_vI2 (by decide)), rfl⟩
set_option maxHeartbeats 4000000 in
set_option maxRecDepth 100000 in
theorem c_m_isBank (l : Launch) (D : va_G) (kc : Nat → ClassId) (A : Nat → Prop) (e0 : Nat × Nat) (M : Mp) (v : Int32) : Met l yX8_isBank wsX8_isBank ({ frames := 1, cells := 0, slots := 0, locals := 22 }) (mPre D kc A e0 M [.int v]) (va_Qi (fun r M1 => r = bN (vI v 4 = true) ∧ M1 = M) (mB D A) A) 0 0 A := by
  refine Met.ofW (cc := cX8_isBank) (maxL := 1) (ret := (some .boolean)) (by decide) rfl ?_
  intro p e s m args below meth c s₁ B hml hv
  obtain ⟨rfl, hw, hK, hA, hcx⟩ := hv
  have X : mX p s m _ c cX8_isBank 1 RX8 wsX8_isBank D kc := ⟨⟨B.exec, B.bytes, hml, findClass_of_methodNamed B.named, atoms_spec (ws := wsX8_isBank) B.pre⟩, hK⟩
  have hx := B.exec
  have hb := B.bytes
  have hr := B.returns
  have hlocks := B.notSynchronized
  have Y : mY D A M s s.heap [] := ⟨hw, va_S.rf⟩
  have hl := lv_entry ([.int v]) (n := 1) (Nat.le_of_ble_eq_true rfl)
  rw [lg_entry_eq]
  generalize (lg_sl ([.int v]) ++ List.replicate (1 - (lg_sl ([.int v])).length) Slot.unset).toArray = ls at hl ⊢
  have hl : lv_has ls 1 [(0, .int v)] := hl
  refine lv_iload_n hx hb dX8_isBank_0 rfl (lv_at hl 0 rfl) ?_
  refine n_iconst hx hb 0 dX8_isBank_1 (by decide) ?_
  refine n_iconst hx hb 3 dX8_isBank_2 (by decide) ?_
  refine m_rSi (As := [.int v, .int (nI 0), .int (nI 3)]) (rest := []) X Y hA hcx (c_m_isIn l D kc A e0 M v 0 (nI 3)) (va_cwS 3 X.1.2.2.2.2 gX8_isBank_X8_isIn rfl rfl rfl (by decide +kernel) ⟨Nat.le_of_ble_eq_true rfl, Nat.le_of_ble_eq_true rfl⟩) rfl rfl hl.1 (Nat.le_of_ble_eq_true rfl) dX8_isBank_3 ⟨by decide, by decide⟩ (fun H locs Y => ?_)
  refine m_zret X Y hr hlocks (by decide) (by decide) (bN_nar _) ?_ dX8_isBank_6
  exact ⟨bN_c (isIn_vI2 (by decide)), rfl⟩
theorem kwX8_isAmount_1 : Cond.constant RX8 73 (100000) ∈ wsX8_isAmount := List.mem_of_getElem? (i := 1) rfl
set_option maxHeartbeats 4000000 in
set_option maxRecDepth 100000 in
theorem c_m_isAmount (l : Launch) (D : va_G) (kc : Nat → ClassId) (A : Nat → Prop) (e0 : Nat × Nat) (M : Mp) (v : Int32) : Met l yX8_isAmount wsX8_isAmount ({ frames := 1, cells := 0, slots := 0, locals := 22 }) (mPre D kc A e0 M [.int v]) (va_Qi (fun r M1 => r = bN (rI v 1 100000 = true) ∧ M1 = M) (mB D A) A) 0 0 A := by
  refine Met.ofW (cc := cX8_isAmount) (maxL := 1) (ret := (some .boolean)) (by decide) rfl ?_
  intro p e s m args below meth c s₁ B hml hv
  obtain ⟨rfl, hw, hK, hA, hcx⟩ := hv
  have X : mX p s m _ c cX8_isAmount 1 RX8 wsX8_isAmount D kc := ⟨⟨B.exec, B.bytes, hml, findClass_of_methodNamed B.named, atoms_spec (ws := wsX8_isAmount) B.pre⟩, hK⟩
  have hx := B.exec
  have hb := B.bytes
  have hr := B.returns
  have hlocks := B.notSynchronized
  have Y : mY D A M s s.heap [] := ⟨hw, va_S.rf⟩
  have hl := lv_entry ([.int v]) (n := 1) (Nat.le_of_ble_eq_true rfl)
  rw [lg_entry_eq]
  generalize (lg_sl ([.int v]) ++ List.replicate (1 - (lg_sl ([.int v])).length) Slot.unset).toArray = ls at hl ⊢
  have hl : lv_has ls 1 [(0, .int v)] := hl
  refine lv_iload_n hx hb dX8_isAmount_0 rfl (lv_at hl 0 rfl) ?_
  refine n_iconst hx hb 1 dX8_isAmount_1 (by decide) ?_
  refine lv_ldc hx hb X.1.2.2.2.1 (X.1.2.2.2.2 _ kwX8_isAmount_1) dX8_isAmount_2 ?_
  refine n_top (y := nI 100000) (by decide) ?_
  refine m_rSi (As := [.int v, .int (nI 1), .int (nI 100000)]) (rest := []) X Y hA hcx (c_m_isIn l D kc A e0 M v 1 (nI 100000)) (va_cwS 3 X.1.2.2.2.2 gX8_isAmount_X8_isIn rfl rfl rfl (by decide +kernel) ⟨Nat.le_of_ble_eq_true rfl, Nat.le_of_ble_eq_true rfl⟩) rfl rfl hl.1 (Nat.le_of_ble_eq_true rfl) dX8_isAmount_4 ⟨by decide, by decide⟩ (fun H locs Y => ?_)
  refine m_zret X Y hr hlocks (by decide) (by decide) (bN_nar _) ?_ dX8_isAmount_7
  exact ⟨bN_c (isIn_rI (by decide) (by decide)), rfl⟩
theorem kwX8_isPayment_1 : Cond.fieldLink RX8 107 "CardPortModel" "payments" "I" ∈ wsX8_isPayment := List.mem_of_getElem? (i := 1) rfl
theorem htX8_isPayment_wsX801 : ∀ w ∈ wsX80, w ∈ wsX8_isPayment := fun _ h => List.mem_cons_of_mem _ (List.mem_append_right _ h)
set_option maxHeartbeats 4000000 in
set_option maxRecDepth 100000 in
theorem c_m_isPayment (l : Launch) (D : va_G) (kc : Nat → ClassId) (A : Nat → Prop) (e0 : Nat × Nat) (M : Mp) {pr : Nat → Prop} {σ τ : Sg} {th : Int32} {o : Int64} {g : Gh} {nn : Nat} (hG : G pr kc e0 σ τ th o g M) (hwf : WS nn τ) (hpr : ∀ t, t ≤ 13 → pr t) (v : Int32) : Met l yX8_isPayment wsX8_isPayment ({ frames := 1, cells := 0, slots := 0, locals := 22 }) (mPre D kc A e0 M [.ref (g.1 11 0), .int v]) (va_Qi (fun r M1 => r = bN (vI v (nP τ) = true) ∧ M1 = M) (mB D A) A) 0 0 A := by
  refine Met.ofW (cc := cX8_isPayment) (maxL := 2) (ret := (some .boolean)) (by decide) rfl ?_
  intro p e s m args below meth c s₁ B hml hv
  obtain ⟨rfl, hw, hK, hA, hcx⟩ := hv
  have X : mX p s m _ c cX8_isPayment 2 RX8 wsX8_isPayment D kc := ⟨⟨B.exec, B.bytes, hml, findClass_of_methodNamed B.named, atoms_spec (ws := wsX8_isPayment) B.pre⟩, hK⟩
  have hx := B.exec
  have hb := B.bytes
  have hr := B.returns
  have hlocks := B.notSynchronized
  have Y : mY D A M s s.heap [] := ⟨hw, va_S.rf⟩
  have hl := lv_entry ([.ref (g.1 11 0), .int v]) (n := 2) (Nat.le_of_ble_eq_true rfl)
  rw [lg_entry_eq]
  generalize (lg_sl ([.ref (g.1 11 0), .int v]) ++ List.replicate (2 - (lg_sl ([.ref (g.1 11 0), .int v])).length) Slot.unset).toArray = ls at hl ⊢
  have hl : lv_has ls 2 [(0, .ref (g.1 11 0)), (1, .int v)] := hl
  have hwn := hwf.2.2.2.1
  have hwd := hwf.1
  refine lv_iload_n hx hb dX8_isPayment_0 rfl (lv_at hl 1 rfl) ?_
  refine n_iconst hx hb 0 dX8_isPayment_1 (by decide) ?_
  refine lv_aload_n hx hb dX8_isPayment_2 rfl (lv_at hl 0 rfl) ?_
  have hg1 := hG.f11 (hpr 11 (by decide))
  refine m_get (ref := "CardPortModel") (C := RX8) (T := TX8) (N := 25) (ci := 9) X Y htX8_isPayment_wsX801 hg1 rfl 4 (by decide) kwX8_isPayment_1 rfl (v := .int (nI (nP τ))) rfl dX8_isPayment_3 ?_
  refine n_iconst hx hb 1 dX8_isPayment_6 (by decide) ?_
  refine lv_isub hx hb dX8_isPayment_7 ?_
  refine m_rSi (As := [.int v, .int (nI 0), .int ((nI (nP τ)) - (nI 1))]) (rest := []) X Y hA hcx (c_m_isIn l D kc A e0 M v 0 (nI (nP τ) - nI 1)) (va_cwS 3 X.1.2.2.2.2 gX8_isPayment_X8_isIn rfl rfl rfl (by decide +kernel) ⟨Nat.le_of_ble_eq_true rfl, Nat.le_of_ble_eq_true rfl⟩) rfl rfl hl.1 (Nat.le_of_ble_eq_true rfl) dX8_isPayment_8 ⟨by decide, by decide⟩ (fun H locs Y => ?_)
  refine m_zret X Y hr hlocks (by decide) (by decide) (bN_nar _) ?_ dX8_isPayment_11
  exact ⟨bN_c (isIn_vI (by omega)), rfl⟩
theorem kwX8_isCapture_1 : Cond.fieldLink RX8 94 "CardPortModel" "captures" "I" ∈ wsX8_isCapture := List.mem_of_getElem? (i := 1) rfl
theorem htX8_isCapture_wsX801 : ∀ w ∈ wsX80, w ∈ wsX8_isCapture := fun _ h => List.mem_cons_of_mem _ (List.mem_append_right _ h)
set_option maxHeartbeats 4000000 in
set_option maxRecDepth 100000 in
theorem c_m_isCapture (l : Launch) (D : va_G) (kc : Nat → ClassId) (A : Nat → Prop) (e0 : Nat × Nat) (M : Mp) {pr : Nat → Prop} {σ τ : Sg} {th : Int32} {o : Int64} {g : Gh} {nn : Nat} (hG : G pr kc e0 σ τ th o g M) (hwf : WS nn τ) (hpr : ∀ t, t ≤ 13 → pr t) (v : Int32) : Met l yX8_isCapture wsX8_isCapture ({ frames := 1, cells := 0, slots := 0, locals := 22 }) (mPre D kc A e0 M [.ref (g.1 11 0), .int v]) (va_Qi (fun r M1 => r = bN (vI v (nC τ) = true) ∧ M1 = M) (mB D A) A) 0 0 A := by
  refine Met.ofW (cc := cX8_isCapture) (maxL := 2) (ret := (some .boolean)) (by decide) rfl ?_
  intro p e s m args below meth c s₁ B hml hv
  obtain ⟨rfl, hw, hK, hA, hcx⟩ := hv
  have X : mX p s m _ c cX8_isCapture 2 RX8 wsX8_isCapture D kc := ⟨⟨B.exec, B.bytes, hml, findClass_of_methodNamed B.named, atoms_spec (ws := wsX8_isCapture) B.pre⟩, hK⟩
  have hx := B.exec
  have hb := B.bytes
  have hr := B.returns
  have hlocks := B.notSynchronized
  have Y : mY D A M s s.heap [] := ⟨hw, va_S.rf⟩
  have hl := lv_entry ([.ref (g.1 11 0), .int v]) (n := 2) (Nat.le_of_ble_eq_true rfl)
  rw [lg_entry_eq]
  generalize (lg_sl ([.ref (g.1 11 0), .int v]) ++ List.replicate (2 - (lg_sl ([.ref (g.1 11 0), .int v])).length) Slot.unset).toArray = ls at hl ⊢
  have hl : lv_has ls 2 [(0, .ref (g.1 11 0)), (1, .int v)] := hl
  have hwn := hwf.2.2.2.1
  have hwd := hwf.1
  refine lv_iload_n hx hb dX8_isCapture_0 rfl (lv_at hl 1 rfl) ?_
  refine n_iconst hx hb 0 dX8_isCapture_1 (by decide) ?_
  refine lv_aload_n hx hb dX8_isCapture_2 rfl (lv_at hl 0 rfl) ?_
  have hg1 := hG.f11 (hpr 11 (by decide))
  refine m_get (ref := "CardPortModel") (C := RX8) (T := TX8) (N := 25) (ci := 9) X Y htX8_isCapture_wsX801 hg1 rfl 11 (by decide) kwX8_isCapture_1 rfl (v := .int (nI (nC τ))) rfl dX8_isCapture_3 ?_
  refine n_iconst hx hb 1 dX8_isCapture_6 (by decide) ?_
  refine lv_isub hx hb dX8_isCapture_7 ?_
  refine m_rSi (As := [.int v, .int (nI 0), .int ((nI (nC τ)) - (nI 1))]) (rest := []) X Y hA hcx (c_m_isIn l D kc A e0 M v 0 (nI (nC τ) - nI 1)) (va_cwS 3 X.1.2.2.2.2 gX8_isCapture_X8_isIn rfl rfl rfl (by decide +kernel) ⟨Nat.le_of_ble_eq_true rfl, Nat.le_of_ble_eq_true rfl⟩) rfl rfl hl.1 (Nat.le_of_ble_eq_true rfl) dX8_isCapture_8 ⟨by decide, by decide⟩ (fun H locs Y => ?_)
  refine m_zret X Y hr hlocks (by decide) (by decide) (bN_nar _) ?_ dX8_isCapture_11
  exact ⟨bN_c (isIn_vI (by omega)), rfl⟩
theorem kwX8_fails_1 : Cond.fieldLink RX8 69 "CardPortModel" "thrown" "I" ∈ wsX8_fails := List.mem_of_getElem? (i := 1) rfl
theorem htX8_fails_wsX801 : ∀ w ∈ wsX80, w ∈ wsX8_fails := fun _ h => List.mem_cons_of_mem _ (List.mem_append_right _ h)
set_option maxHeartbeats 4000000 in
set_option maxRecDepth 100000 in
theorem c_m_fails (l : Launch) (D : va_G) (kc : Nat → ClassId) (A : Nat → Prop) (e0 : Nat × Nat) (M : Mp) {pr : Nat → Prop} {σ τ : Sg} {th : Int32} {o : Int64} {g : Gh} {nn : Nat} (hG : G pr kc e0 σ τ th o g M) (hwf : WS nn τ) (hpr : ∀ t, t ≤ 13 → pr t) (w : Nat) (hwl : w < 2147483648) : Met l yX8_fails wsX8_fails ({ frames := 0, cells := 0, slots := 0, locals := 0 }) (mPre D kc A e0 M [.ref (g.1 11 0), .int (nI w)]) (va_Qi (fun r M1 => r = bN (0 < w) ∧ G pr kc e0 σ τ (nI w) o g M1) (mB D A) A) 0 0 A := by
  refine Met.ofW (cc := cX8_fails) (maxL := 2) (ret := (some .boolean)) (by decide) rfl ?_
  intro p e s m args below meth c s₁ B hml hv
  obtain ⟨rfl, hw, hK, hA, hcx⟩ := hv
  have X : mX p s m _ c cX8_fails 2 RX8 wsX8_fails D kc := ⟨⟨B.exec, B.bytes, hml, findClass_of_methodNamed B.named, atoms_spec (ws := wsX8_fails) B.pre⟩, hK⟩
  have hx := B.exec
  have hb := B.bytes
  have hr := B.returns
  have hlocks := B.notSynchronized
  have Y : mY D A M s s.heap [] := ⟨hw, va_S.rf⟩
  have hl := lv_entry ([.ref (g.1 11 0), .int (nI w)]) (n := 2) (Nat.le_of_ble_eq_true rfl)
  rw [lg_entry_eq]
  generalize (lg_sl ([.ref (g.1 11 0), .int (nI w)]) ++ List.replicate (2 - (lg_sl ([.ref (g.1 11 0), .int (nI w)])).length) Slot.unset).toArray = ls at hl ⊢
  have hl : lv_has ls 2 [(0, .ref (g.1 11 0)), (1, .int (nI w))] := hl
  have hwn := hwf.2.2.2.1
  have hwd := hwf.1
  refine lv_aload_n hx hb dX8_fails_0 rfl (lv_at hl 0 rfl) ?_
  refine lv_iload_n hx hb dX8_fails_1 rfl (lv_at hl 1 rfl) ?_
  have hg1 := hG.f11 (hpr 11 (by decide))
  refine m_put (ref := "CardPortModel") (C := RX8) (T := TX8) (N := 25) (ci := 9) X Y htX8_fails_wsX801 tyX8 tyX8_ok nmX8 hg1 rfl 24 (by decide) kwX8_fails_1 rfl rfl (v := .int (nI w)) rfl rfl (Nat.le_of_ble_eq_true rfl) dX8_fails_2 (fun H locs Y => ?_)
  obtain ⟨M2, eM2⟩ : ∃ zz9 : Mp, zz9 = mu M (g.1 11 0) (.inr (9, [.int (nI (tD τ)), .ref (g.1 12 1), .ref (g.1 12 2), .ref (g.1 12 3), .int (nI (nP τ)), .ref (g.1 12 5), .ref (g.1 12 6), .ref (g.1 12 7), .ref (g.1 12 8), .ref (g.1 12 9), .ref (g.1 12 10), .int (nI (nC τ)), .ref (g.1 12 12), .ref (g.1 12 13), .ref (g.1 12 14), .ref (g.1 12 15), .int (nI (nB τ)), .ref (g.1 12 17), .ref (g.1 12 18), .ref (g.1 12 19), .ref (g.1 12 20), .int (nI (τ.1 21 0)), .ref (g.1 12 22), .ref (g.1 12 23), .int (nI w)])) := ⟨_, rfl⟩
  replace Y : mY D A M2 s H locs := by rw [eM2]; exact Y
  have hh3 : M2 (g.1 11 0) = some (.inr (9, [.int (nI (tD τ)), .ref (g.1 12 1), .ref (g.1 12 2), .ref (g.1 12 3), .int (nI (nP τ)), .ref (g.1 12 5), .ref (g.1 12 6), .ref (g.1 12 7), .ref (g.1 12 8), .ref (g.1 12 9), .ref (g.1 12 10), .int (nI (nC τ)), .ref (g.1 12 12), .ref (g.1 12 13), .ref (g.1 12 14), .ref (g.1 12 15), .int (nI (nB τ)), .ref (g.1 12 17), .ref (g.1 12 18), .ref (g.1 12 19), .ref (g.1 12 20), .int (nI (τ.1 21 0)), .ref (g.1 12 22), .ref (g.1 12 23), .int (nI w)])) := by rw [eM2]; exact mu_self _ _ _
  have hG4 : G pr kc e0 σ τ (nI w) o g M2 := by rw [eM2]; exact hG.setTh (hpr 11 (by decide)) (nI w)
  refine lv_iload_n hx hb dX8_fails_5 rfl (lv_at hl 1 rfl) ?_
  refine lv_if_le (tgt := 13) hx hb dX8_fails_6 (by decide) (fun c6 => ?_) (fun c6 => ?_)
  · refine n_iconst hx hb 0 dX8_fails_13 (by decide) ?_
    refine m_zret X Y hr hlocks (by decide) (by decide) (by rfl) ?_ dX8_fails_14
    exact ⟨(bN_f (by first | omega | (rw [nI_le0 hwl] at c6; omega))).symm, hG4⟩
  · refine n_iconst hx hb 1 dX8_fails_9 (by decide) ?_
    refine lv_goto (tgt := 14) hx hb dX8_fails_10 (by decide) ?_
    refine m_zret X Y hr hlocks (by decide) (by decide) (by rfl) ?_ dX8_fails_14
    exact ⟨(bN_t (by first | omega | (rw [nI_le0 hwl] at c6; omega))).symm, hG4⟩
theorem kwX8_isOpen_1 : Cond.fieldLink RX8 34 "CardPortModel" "isVoid" "[Z" ∈ wsX8_isOpen := List.mem_of_getElem? (i := 1) rfl
theorem htX8_isOpen_wsX801 : ∀ w ∈ wsX80, w ∈ wsX8_isOpen := fun _ h => List.mem_cons_of_mem _ (List.mem_append_right _ h)
theorem kwX8_isOpen_2 : Cond.fieldLink RX8 114 "CardPortModel" "day" "I" ∈ wsX8_isOpen := List.mem_of_getElem? (i := 2) rfl
theorem kwX8_isOpen_3 : Cond.fieldLink RX8 31 "CardPortModel" "last" "[I" ∈ wsX8_isOpen := List.mem_of_getElem? (i := 3) rfl
set_option maxHeartbeats 4000000 in
set_option maxRecDepth 100000 in
theorem c_m_isOpen (l : Launch) (D : va_G) (kc : Nat → ClassId) (A : Nat → Prop) (e0 : Nat × Nat) (M : Mp) {pr : Nat → Prop} {σ τ : Sg} {th : Int32} {o : Int64} {g : Gh} {nn : Nat} (hG : G pr kc e0 σ τ th o g M) (hwf : WS nn τ) (hpr : ∀ t, t ≤ 13 → pr t) (j : Nat) (hj : j < nP τ) : Met l yX8_isOpen wsX8_isOpen ({ frames := 0, cells := 0, slots := 0, locals := 0 }) (mPre D kc A e0 M [.ref (g.1 11 0), .int (nI j)]) (va_Qi (fun r M1 => r = bN (τ.1 10 j = 0 ∧ tD τ ≤ τ.1 9 j) ∧ M1 = M) (mB D A) A) 0 0 A := by
  refine Met.ofW (cc := cX8_isOpen) (maxL := 2) (ret := (some .boolean)) (by decide) rfl ?_
  intro p e s m args below meth c s₁ B hml hv
  obtain ⟨rfl, hw, hK, hA, hcx⟩ := hv
  have X : mX p s m _ c cX8_isOpen 2 RX8 wsX8_isOpen D kc := ⟨⟨B.exec, B.bytes, hml, findClass_of_methodNamed B.named, atoms_spec (ws := wsX8_isOpen) B.pre⟩, hK⟩
  have hx := B.exec
  have hb := B.bytes
  have hr := B.returns
  have hlocks := B.notSynchronized
  have Y : mY D A M s s.heap [] := ⟨hw, va_S.rf⟩
  have hl := lv_entry ([.ref (g.1 11 0), .int (nI j)]) (n := 2) (Nat.le_of_ble_eq_true rfl)
  rw [lg_entry_eq]
  generalize (lg_sl ([.ref (g.1 11 0), .int (nI j)]) ++ List.replicate (2 - (lg_sl ([.ref (g.1 11 0), .int (nI j)])).length) Slot.unset).toArray = ls at hl ⊢
  have hl : lv_has ls 2 [(0, .ref (g.1 11 0)), (1, .int (nI j))] := hl
  have hwn := hwf.2.2.2.1
  have hwd := hwf.1
  have hw5 := hwf.2.2.2.2.1 _ hj
  refine lv_aload_n hx hb dX8_isOpen_0 rfl (lv_at hl 0 rfl) ?_
  have hg1 := hG.f11 (hpr 11 (by decide))
  refine m_get (ref := "CardPortModel") (C := RX8) (T := TX8) (N := 25) (ci := 9) X Y htX8_isOpen_wsX801 hg1 rfl 10 (by decide) kwX8_isOpen_1 rfl (v := .ref (g.1 12 10)) rfl dX8_isOpen_1 ?_
  refine lv_iload_n hx hb dX8_isOpen_4 rfl (lv_at hl 1 rfl) ?_
  refine g_zald X Y hG (hpr 12 (by decide)) (j := j) (show j < 60 by omega) (v := τ.1 10 j) rfl dX8_isOpen_5 ?_
  refine n_if_ne hx hb 26 (by omega) dX8_isOpen_6 (by decide) (fun c6 => ?_) (fun c6 => ?_)
  · refine n_iconst hx hb 0 dX8_isOpen_26 (by decide) ?_
    refine m_zret X Y hr hlocks (by decide) (by decide) (by rfl) ?_ dX8_isOpen_27
    exact ⟨(bN_f (by omega)).symm, rfl⟩
  · refine lv_aload_n hx hb dX8_isOpen_9 rfl (lv_at hl 0 rfl) ?_
    refine m_get (ref := "CardPortModel") (C := RX8) (T := TX8) (N := 25) (ci := 9) X Y htX8_isOpen_wsX801 hg1 rfl 0 (by decide) kwX8_isOpen_2 rfl (v := .int (nI (tD τ))) rfl dX8_isOpen_10 ?_
    refine lv_aload_n hx hb dX8_isOpen_13 rfl (lv_at hl 0 rfl) ?_
    refine m_get (ref := "CardPortModel") (C := RX8) (T := TX8) (N := 25) (ci := 9) X Y htX8_isOpen_wsX801 hg1 rfl 9 (by decide) kwX8_isOpen_3 rfl (v := .ref (g.1 12 9)) rfl dX8_isOpen_14 ?_
    refine lv_iload_n hx hb dX8_isOpen_17 rfl (lv_at hl 1 rfl) ?_
    refine g_iald X Y hG (hpr 12 (by decide)) (k := 9) (by decide) (j := j) (show j < 60 by omega) (v := τ.1 9 j) rfl dX8_isOpen_18 ?_
    refine n_icmp_gt hx hb 26 (by omega) (by omega) dX8_isOpen_19 (by decide) (fun c19 => ?_) (fun c19 => ?_)
    · refine n_iconst hx hb 0 dX8_isOpen_26 (by decide) ?_
      refine m_zret X Y hr hlocks (by decide) (by decide) (by rfl) ?_ dX8_isOpen_27
      exact ⟨(bN_f (by omega)).symm, rfl⟩
    · refine n_iconst hx hb 1 dX8_isOpen_22 (by decide) ?_
      refine lv_goto (tgt := 27) hx hb dX8_isOpen_23 (by decide) ?_
      refine m_zret X Y hr hlocks (by decide) (by decide) (by rfl) ?_ dX8_isOpen_27
      exact ⟨(bN_t (by omega)).symm, rfl⟩
theorem kwX8_cardBank_1 : Cond.fieldLink RX8 19 "CardPortModel" "card" "[I" ∈ wsX8_cardBank := List.mem_of_getElem? (i := 1) rfl
theorem htX8_cardBank_wsX801 : ∀ w ∈ wsX80, w ∈ wsX8_cardBank := fun _ h => List.mem_cons_of_mem _ (List.mem_append_right _ h)
theorem kwX8_cardBank_2 : Cond.fieldLink RX8 38 "CardPortModel" "payment" "[I" ∈ wsX8_cardBank := List.mem_of_getElem? (i := 2) rfl
set_option maxHeartbeats 4000000 in
set_option maxRecDepth 100000 in
theorem c_m_cardBank (l : Launch) (D : va_G) (kc : Nat → ClassId) (A : Nat → Prop) (e0 : Nat × Nat) (M : Mp) {pr : Nat → Prop} {σ τ : Sg} {th : Int32} {o : Int64} {g : Gh} {nn : Nat} (hG : G pr kc e0 σ τ th o g M) (hwf : WS nn τ) (hpr : ∀ t, t ≤ 13 → pr t) (k : Nat) (hk : k < nC τ) : Met l yX8_cardBank wsX8_cardBank ({ frames := 0, cells := 0, slots := 0, locals := 0 }) (mPre D kc A e0 M [.ref (g.1 11 0), .int (nI k)]) (va_Qi (fun r M1 => r = nI (cBk τ k) ∧ M1 = M) (mB D A) A) 0 0 A := by
  refine Met.ofW (cc := cX8_cardBank) (maxL := 2) (ret := (some .int)) (by decide) rfl ?_
  intro p e s m args below meth c s₁ B hml hv
  obtain ⟨rfl, hw, hK, hA, hcx⟩ := hv
  have X : mX p s m _ c cX8_cardBank 2 RX8 wsX8_cardBank D kc := ⟨⟨B.exec, B.bytes, hml, findClass_of_methodNamed B.named, atoms_spec (ws := wsX8_cardBank) B.pre⟩, hK⟩
  have hx := B.exec
  have hb := B.bytes
  have hr := B.returns
  have hlocks := B.notSynchronized
  have Y : mY D A M s s.heap [] := ⟨hw, va_S.rf⟩
  have hl := lv_entry ([.ref (g.1 11 0), .int (nI k)]) (n := 2) (Nat.le_of_ble_eq_true rfl)
  rw [lg_entry_eq]
  generalize (lg_sl ([.ref (g.1 11 0), .int (nI k)]) ++ List.replicate (2 - (lg_sl ([.ref (g.1 11 0), .int (nI k)])).length) Slot.unset).toArray = ls at hl ⊢
  have hl : lv_has ls 2 [(0, .ref (g.1 11 0)), (1, .int (nI k))] := hl
  have hwn := hwf.2.2.2.1
  have hwd := hwf.1
  have hw1 := hwf.2.2.2.2.2.2.1 _ hk
  have hw5 := hwf.2.2.2.2.1 _ hw1.1
  refine lv_aload_n hx hb dX8_cardBank_0 rfl (lv_at hl 0 rfl) ?_
  have hg1 := hG.f11 (hpr 11 (by decide))
  refine m_get (ref := "CardPortModel") (C := RX8) (T := TX8) (N := 25) (ci := 9) X Y htX8_cardBank_wsX801 hg1 rfl 5 (by decide) kwX8_cardBank_1 rfl (v := .ref (g.1 12 5)) rfl dX8_cardBank_1 ?_
  refine lv_aload_n hx hb dX8_cardBank_4 rfl (lv_at hl 0 rfl) ?_
  refine m_get (ref := "CardPortModel") (C := RX8) (T := TX8) (N := 25) (ci := 9) X Y htX8_cardBank_wsX801 hg1 rfl 12 (by decide) kwX8_cardBank_2 rfl (v := .ref (g.1 12 12)) rfl dX8_cardBank_5 ?_
  refine lv_iload_n hx hb dX8_cardBank_8 rfl (lv_at hl 1 rfl) ?_
  refine g_iald X Y hG (hpr 12 (by decide)) (k := 12) (by decide) (j := k) (show k < 100 by omega) (v := τ.1 12 k) rfl dX8_cardBank_9 ?_
  refine g_iald X Y hG (hpr 12 (by decide)) (k := 5) (by decide) (j := τ.1 12 k) (show τ.1 12 k < 60 by omega) (v := τ.1 5 (τ.1 12 k)) rfl dX8_cardBank_10 ?_
  refine n_iconst hx hb 3 dX8_cardBank_11 (by decide) ?_
  refine n_idiv hx hb (by omega) (by omega) (by omega) dX8_cardBank_12 ?_
  refine m_iret X Y hr hlocks (by decide) (by decide) ?_ dX8_cardBank_13
  exact ⟨rfl, rfl⟩
theorem kwX8_shopBank_1 : Cond.fieldLink RX8 22 "CardPortModel" "shop" "[I" ∈ wsX8_shopBank := List.mem_of_getElem? (i := 1) rfl
theorem htX8_shopBank_wsX801 : ∀ w ∈ wsX80, w ∈ wsX8_shopBank := fun _ h => List.mem_cons_of_mem _ (List.mem_append_right _ h)
theorem kwX8_shopBank_2 : Cond.fieldLink RX8 38 "CardPortModel" "payment" "[I" ∈ wsX8_shopBank := List.mem_of_getElem? (i := 2) rfl
set_option maxHeartbeats 4000000 in
set_option maxRecDepth 100000 in
theorem c_m_shopBank (l : Launch) (D : va_G) (kc : Nat → ClassId) (A : Nat → Prop) (e0 : Nat × Nat) (M : Mp) {pr : Nat → Prop} {σ τ : Sg} {th : Int32} {o : Int64} {g : Gh} {nn : Nat} (hG : G pr kc e0 σ τ th o g M) (hwf : WS nn τ) (hpr : ∀ t, t ≤ 13 → pr t) (k : Nat) (hk : k < nC τ) : Met l yX8_shopBank wsX8_shopBank ({ frames := 0, cells := 0, slots := 0, locals := 0 }) (mPre D kc A e0 M [.ref (g.1 11 0), .int (nI k)]) (va_Qi (fun r M1 => r = nI (sBk τ k) ∧ M1 = M) (mB D A) A) 0 0 A := by
  refine Met.ofW (cc := cX8_shopBank) (maxL := 2) (ret := (some .int)) (by decide) rfl ?_
  intro p e s m args below meth c s₁ B hml hv
  obtain ⟨rfl, hw, hK, hA, hcx⟩ := hv
  have X : mX p s m _ c cX8_shopBank 2 RX8 wsX8_shopBank D kc := ⟨⟨B.exec, B.bytes, hml, findClass_of_methodNamed B.named, atoms_spec (ws := wsX8_shopBank) B.pre⟩, hK⟩
  have hx := B.exec
  have hb := B.bytes
  have hr := B.returns
  have hlocks := B.notSynchronized
  have Y : mY D A M s s.heap [] := ⟨hw, va_S.rf⟩
  have hl := lv_entry ([.ref (g.1 11 0), .int (nI k)]) (n := 2) (Nat.le_of_ble_eq_true rfl)
  rw [lg_entry_eq]
  generalize (lg_sl ([.ref (g.1 11 0), .int (nI k)]) ++ List.replicate (2 - (lg_sl ([.ref (g.1 11 0), .int (nI k)])).length) Slot.unset).toArray = ls at hl ⊢
  have hl : lv_has ls 2 [(0, .ref (g.1 11 0)), (1, .int (nI k))] := hl
  have hwn := hwf.2.2.2.1
  have hwd := hwf.1
  have hw1 := hwf.2.2.2.2.2.2.1 _ hk
  have hw5 := hwf.2.2.2.2.1 _ hw1.1
  refine lv_aload_n hx hb dX8_shopBank_0 rfl (lv_at hl 0 rfl) ?_
  have hg1 := hG.f11 (hpr 11 (by decide))
  refine m_get (ref := "CardPortModel") (C := RX8) (T := TX8) (N := 25) (ci := 9) X Y htX8_shopBank_wsX801 hg1 rfl 6 (by decide) kwX8_shopBank_1 rfl (v := .ref (g.1 12 6)) rfl dX8_shopBank_1 ?_
  refine lv_aload_n hx hb dX8_shopBank_4 rfl (lv_at hl 0 rfl) ?_
  refine m_get (ref := "CardPortModel") (C := RX8) (T := TX8) (N := 25) (ci := 9) X Y htX8_shopBank_wsX801 hg1 rfl 12 (by decide) kwX8_shopBank_2 rfl (v := .ref (g.1 12 12)) rfl dX8_shopBank_5 ?_
  refine lv_iload_n hx hb dX8_shopBank_8 rfl (lv_at hl 1 rfl) ?_
  refine g_iald X Y hG (hpr 12 (by decide)) (k := 12) (by decide) (j := k) (show k < 100 by omega) (v := τ.1 12 k) rfl dX8_shopBank_9 ?_
  refine g_iald X Y hG (hpr 12 (by decide)) (k := 6) (by decide) (j := τ.1 12 k) (show τ.1 12 k < 60 by omega) (v := τ.1 6 (τ.1 12 k)) rfl dX8_shopBank_10 ?_
  refine n_iconst hx hb 4 dX8_shopBank_11 (by decide) ?_
  refine n_irem hx hb (by omega) (by omega) (by omega) dX8_shopBank_12 ?_
  refine m_iret X Y hr hlocks (by decide) (by decide) ?_ dX8_shopBank_13
  exact ⟨rfl, rfl⟩
theorem kwX8_isDue_1 : Cond.fieldLink RX8 50 "CardPortModel" "state" "[I" ∈ wsX8_isDue := List.mem_of_getElem? (i := 1) rfl
theorem htX8_isDue_wsX801 : ∀ w ∈ wsX80, w ∈ wsX8_isDue := fun _ h => List.mem_cons_of_mem _ (List.mem_append_right _ h)
set_option maxHeartbeats 4000000 in
set_option maxRecDepth 100000 in
theorem c_m_isDue (l : Launch) (D : va_G) (kc : Nat → ClassId) (A : Nat → Prop) (e0 : Nat × Nat) (M : Mp) {pr : Nat → Prop} {σ τ : Sg} {th : Int32} {o : Int64} {g : Gh} {nn : Nat} (hG : G pr kc e0 σ τ th o g M) (hwf : WS nn τ) (hpr : ∀ t, t ≤ 13 → pr t) (c0 : Nat) (hc0 : c0 < nB τ) : Met l yX8_isDue wsX8_isDue ({ frames := 0, cells := 0, slots := 0, locals := 0 }) (mPre D kc A e0 M [.ref (g.1 11 0), .int (nI c0)]) (va_Qi (fun r M1 => r = bN (τ.1 17 c0 ≤ 1) ∧ M1 = M) (mB D A) A) 0 0 A := by
  refine Met.ofW (cc := cX8_isDue) (maxL := 2) (ret := (some .boolean)) (by decide) rfl ?_
  intro p e s m args below meth c s₁ B hml hv
  obtain ⟨rfl, hw, hK, hA, hcx⟩ := hv
  have X : mX p s m _ c cX8_isDue 2 RX8 wsX8_isDue D kc := ⟨⟨B.exec, B.bytes, hml, findClass_of_methodNamed B.named, atoms_spec (ws := wsX8_isDue) B.pre⟩, hK⟩
  have hx := B.exec
  have hb := B.bytes
  have hr := B.returns
  have hlocks := B.notSynchronized
  have Y : mY D A M s s.heap [] := ⟨hw, va_S.rf⟩
  have hl := lv_entry ([.ref (g.1 11 0), .int (nI c0)]) (n := 2) (Nat.le_of_ble_eq_true rfl)
  rw [lg_entry_eq]
  generalize (lg_sl ([.ref (g.1 11 0), .int (nI c0)]) ++ List.replicate (2 - (lg_sl ([.ref (g.1 11 0), .int (nI c0)])).length) Slot.unset).toArray = ls at hl ⊢
  have hl : lv_has ls 2 [(0, .ref (g.1 11 0)), (1, .int (nI c0))] := hl
  have hwn := hwf.2.2.2.1
  have hwd := hwf.1
  have hw9 := hwf.2.2.2.2.2.2.2.2 _ hc0
  refine lv_aload_n hx hb dX8_isDue_0 rfl (lv_at hl 0 rfl) ?_
  have hg1 := hG.f11 (hpr 11 (by decide))
  refine m_get (ref := "CardPortModel") (C := RX8) (T := TX8) (N := 25) (ci := 9) X Y htX8_isDue_wsX801 hg1 rfl 17 (by decide) kwX8_isDue_1 rfl (v := .ref (g.1 12 17)) rfl dX8_isDue_1 ?_
  refine lv_iload_n hx hb dX8_isDue_4 rfl (lv_at hl 1 rfl) ?_
  refine g_iald X Y hG (hpr 12 (by decide)) (k := 17) (by decide) (j := c0) (show c0 < 60 by omega) (v := τ.1 17 c0) rfl dX8_isDue_5 ?_
  refine n_if_eq hx hb 19 (by omega) dX8_isDue_6 (by decide) (fun c6 => ?_) (fun c6 => ?_)
  · refine n_iconst hx hb 1 dX8_isDue_19 (by decide) ?_
    refine lv_goto (tgt := 24) hx hb dX8_isDue_20 (by decide) ?_
    refine m_zret X Y hr hlocks (by decide) (by decide) (by rfl) ?_ dX8_isDue_24
    exact ⟨(bN_t (by omega)).symm, rfl⟩
  · refine lv_aload_n hx hb dX8_isDue_9 rfl (lv_at hl 0 rfl) ?_
    refine m_get (ref := "CardPortModel") (C := RX8) (T := TX8) (N := 25) (ci := 9) X Y htX8_isDue_wsX801 hg1 rfl 17 (by decide) kwX8_isDue_1 rfl (v := .ref (g.1 12 17)) rfl dX8_isDue_10 ?_
    refine lv_iload_n hx hb dX8_isDue_13 rfl (lv_at hl 1 rfl) ?_
    refine g_iald X Y hG (hpr 12 (by decide)) (k := 17) (by decide) (j := c0) (show c0 < 60 by omega) (v := τ.1 17 c0) rfl dX8_isDue_14 ?_
    refine n_iconst hx hb 1 dX8_isDue_15 (by decide) ?_
    refine n_icmp_ne hx hb 23 (by omega) (by omega) dX8_isDue_16 (by decide) (fun c16 => ?_) (fun c16 => ?_)
    · refine n_iconst hx hb 0 dX8_isDue_23 (by decide) ?_
      refine m_zret X Y hr hlocks (by decide) (by decide) (by rfl) ?_ dX8_isDue_24
      exact ⟨(bN_f (by omega)).symm, rfl⟩
    · refine n_iconst hx hb 1 dX8_isDue_19 (by decide) ?_
      refine lv_goto (tgt := 24) hx hb dX8_isDue_20 (by decide) ?_
      refine m_zret X Y hr hlocks (by decide) (by decide) (by rfl) ?_ dX8_isDue_24
      exact ⟨(bN_t (by omega)).symm, rfl⟩
theorem kwX8_isAhead_1 : Cond.fieldLink RX8 59 "CardPortModel" "until" "[I" ∈ wsX8_isAhead := List.mem_of_getElem? (i := 1) rfl
theorem htX8_isAhead_wsX801 : ∀ w ∈ wsX80, w ∈ wsX8_isAhead := fun _ h => List.mem_cons_of_mem _ (List.mem_append_right _ h)
theorem kwX8_isAhead_2 : Cond.fieldLink RX8 56 "CardPortModel" "disputed" "[I" ∈ wsX8_isAhead := List.mem_of_getElem? (i := 2) rfl
set_option maxHeartbeats 4000000 in
set_option maxRecDepth 100000 in
theorem c_m_isAhead (l : Launch) (D : va_G) (kc : Nat → ClassId) (A : Nat → Prop) (e0 : Nat × Nat) (M : Mp) {pr : Nat → Prop} {σ τ : Sg} {th : Int32} {o : Int64} {g : Gh} {nn : Nat} (hG : G pr kc e0 σ τ th o g M) (hwf : WS nn τ) (hpr : ∀ t, t ≤ 13 → pr t) (a0 b0 : Nat) (ha0 : a0 < nB τ) (hb0 : b0 < nB τ) : Met l yX8_isAhead wsX8_isAhead ({ frames := 0, cells := 0, slots := 0, locals := 0 }) (mPre D kc A e0 M [.ref (g.1 11 0), .int (nI a0), .int (nI b0)]) (va_Qi (fun r M1 => r = bN (ahd τ a0 b0) ∧ M1 = M) (mB D A) A) 0 0 A := by
  refine Met.ofW (cc := cX8_isAhead) (maxL := 3) (ret := (some .boolean)) (by decide) rfl ?_
  intro p e s m args below meth c s₁ B hml hv
  obtain ⟨rfl, hw, hK, hA, hcx⟩ := hv
  have X : mX p s m _ c cX8_isAhead 3 RX8 wsX8_isAhead D kc := ⟨⟨B.exec, B.bytes, hml, findClass_of_methodNamed B.named, atoms_spec (ws := wsX8_isAhead) B.pre⟩, hK⟩
  have hx := B.exec
  have hb := B.bytes
  have hr := B.returns
  have hlocks := B.notSynchronized
  have Y : mY D A M s s.heap [] := ⟨hw, va_S.rf⟩
  have hl := lv_entry ([.ref (g.1 11 0), .int (nI a0), .int (nI b0)]) (n := 3) (Nat.le_of_ble_eq_true rfl)
  rw [lg_entry_eq]
  generalize (lg_sl ([.ref (g.1 11 0), .int (nI a0), .int (nI b0)]) ++ List.replicate (3 - (lg_sl ([.ref (g.1 11 0), .int (nI a0), .int (nI b0)])).length) Slot.unset).toArray = ls at hl ⊢
  have hl : lv_has ls 3 [(0, .ref (g.1 11 0)), (1, .int (nI a0)), (2, .int (nI b0))] := hl
  have hwn := hwf.2.2.2.1
  have hwd := hwf.1
  have hw9 := hwf.2.2.2.2.2.2.2.2 _ ha0
  have hw8 := hwf.2.2.2.2.2.2.2.2 _ hb0
  refine lv_aload_n hx hb dX8_isAhead_0 rfl (lv_at hl 0 rfl) ?_
  have hg1 := hG.f11 (hpr 11 (by decide))
  refine m_get (ref := "CardPortModel") (C := RX8) (T := TX8) (N := 25) (ci := 9) X Y htX8_isAhead_wsX801 hg1 rfl 20 (by decide) kwX8_isAhead_1 rfl (v := .ref (g.1 12 20)) rfl dX8_isAhead_1 ?_
  refine lv_iload_n hx hb dX8_isAhead_4 rfl (lv_at hl 1 rfl) ?_
  refine g_iald X Y hG (hpr 12 (by decide)) (k := 20) (by decide) (j := a0) (show a0 < 60 by omega) (v := τ.1 20 a0) rfl dX8_isAhead_5 ?_
  refine lv_aload_n hx hb dX8_isAhead_6 rfl (lv_at hl 0 rfl) ?_
  refine m_get (ref := "CardPortModel") (C := RX8) (T := TX8) (N := 25) (ci := 9) X Y htX8_isAhead_wsX801 hg1 rfl 20 (by decide) kwX8_isAhead_1 rfl (v := .ref (g.1 12 20)) rfl dX8_isAhead_7 ?_
  refine lv_iload_n hx hb dX8_isAhead_10 rfl (lv_at hl 2 rfl) ?_
  refine g_iald X Y hG (hpr 12 (by decide)) (k := 20) (by decide) (j := b0) (show b0 < 60 by omega) (v := τ.1 20 b0) rfl dX8_isAhead_11 ?_
  refine n_icmp_eq hx hb 36 (by omega) (by omega) dX8_isAhead_12 (by decide) (fun c12 => ?_) (fun c12 => ?_)
  · refine lv_aload_n hx hb dX8_isAhead_36 rfl (lv_at hl 0 rfl) ?_
    refine m_get (ref := "CardPortModel") (C := RX8) (T := TX8) (N := 25) (ci := 9) X Y htX8_isAhead_wsX801 hg1 rfl 19 (by decide) kwX8_isAhead_2 rfl (v := .ref (g.1 12 19)) rfl dX8_isAhead_37 ?_
    refine lv_iload_n hx hb dX8_isAhead_40 rfl (lv_at hl 1 rfl) ?_
    refine g_iald X Y hG (hpr 12 (by decide)) (k := 19) (by decide) (j := a0) (show a0 < 60 by omega) (v := τ.1 19 a0) rfl dX8_isAhead_41 ?_
    refine lv_aload_n hx hb dX8_isAhead_42 rfl (lv_at hl 0 rfl) ?_
    refine m_get (ref := "CardPortModel") (C := RX8) (T := TX8) (N := 25) (ci := 9) X Y htX8_isAhead_wsX801 hg1 rfl 19 (by decide) kwX8_isAhead_2 rfl (v := .ref (g.1 12 19)) rfl dX8_isAhead_43 ?_
    refine lv_iload_n hx hb dX8_isAhead_46 rfl (lv_at hl 2 rfl) ?_
    refine g_iald X Y hG (hpr 12 (by decide)) (k := 19) (by decide) (j := b0) (show b0 < 60 by omega) (v := τ.1 19 b0) rfl dX8_isAhead_47 ?_
    refine n_icmp_gt hx hb 71 (by omega) (by omega) dX8_isAhead_48 (by decide) (fun c48 => ?_) (fun c48 => ?_)
    · refine n_iconst hx hb 1 dX8_isAhead_71 (by decide) ?_
      refine lv_goto (tgt := 76) hx hb dX8_isAhead_72 (by decide) ?_
      refine m_zret X Y hr hlocks (by decide) (by decide) (by rfl) ?_ dX8_isAhead_76
      exact ⟨(bN_t (by unfold ahd; omega)).symm, rfl⟩
    · refine lv_aload_n hx hb dX8_isAhead_51 rfl (lv_at hl 0 rfl) ?_
      refine m_get (ref := "CardPortModel") (C := RX8) (T := TX8) (N := 25) (ci := 9) X Y htX8_isAhead_wsX801 hg1 rfl 19 (by decide) kwX8_isAhead_2 rfl (v := .ref (g.1 12 19)) rfl dX8_isAhead_52 ?_
      refine lv_iload_n hx hb dX8_isAhead_55 rfl (lv_at hl 1 rfl) ?_
      refine g_iald X Y hG (hpr 12 (by decide)) (k := 19) (by decide) (j := a0) (show a0 < 60 by omega) (v := τ.1 19 a0) rfl dX8_isAhead_56 ?_
      refine lv_aload_n hx hb dX8_isAhead_57 rfl (lv_at hl 0 rfl) ?_
      refine m_get (ref := "CardPortModel") (C := RX8) (T := TX8) (N := 25) (ci := 9) X Y htX8_isAhead_wsX801 hg1 rfl 19 (by decide) kwX8_isAhead_2 rfl (v := .ref (g.1 12 19)) rfl dX8_isAhead_58 ?_
      refine lv_iload_n hx hb dX8_isAhead_61 rfl (lv_at hl 2 rfl) ?_
      refine g_iald X Y hG (hpr 12 (by decide)) (k := 19) (by decide) (j := b0) (show b0 < 60 by omega) (v := τ.1 19 b0) rfl dX8_isAhead_62 ?_
      refine n_icmp_ne hx hb 75 (by omega) (by omega) dX8_isAhead_63 (by decide) (fun c63 => ?_) (fun c63 => ?_)
      · refine n_iconst hx hb 0 dX8_isAhead_75 (by decide) ?_
        refine m_zret X Y hr hlocks (by decide) (by decide) (by rfl) ?_ dX8_isAhead_76
        exact ⟨(bN_f (by unfold ahd; omega)).symm, rfl⟩
      · refine lv_iload_n hx hb dX8_isAhead_66 rfl (lv_at hl 1 rfl) ?_
        refine lv_iload_n hx hb dX8_isAhead_67 rfl (lv_at hl 2 rfl) ?_
        refine n_icmp_ge hx hb 75 (by omega) (by omega) dX8_isAhead_68 (by decide) (fun c68 => ?_) (fun c68 => ?_)
        · refine n_iconst hx hb 0 dX8_isAhead_75 (by decide) ?_
          refine m_zret X Y hr hlocks (by decide) (by decide) (by rfl) ?_ dX8_isAhead_76
          exact ⟨(bN_f (by unfold ahd; omega)).symm, rfl⟩
        · refine n_iconst hx hb 1 dX8_isAhead_71 (by decide) ?_
          refine lv_goto (tgt := 76) hx hb dX8_isAhead_72 (by decide) ?_
          refine m_zret X Y hr hlocks (by decide) (by decide) (by rfl) ?_ dX8_isAhead_76
          exact ⟨(bN_t (by unfold ahd; omega)).symm, rfl⟩
  · refine lv_aload_n hx hb dX8_isAhead_15 rfl (lv_at hl 0 rfl) ?_
    refine m_get (ref := "CardPortModel") (C := RX8) (T := TX8) (N := 25) (ci := 9) X Y htX8_isAhead_wsX801 hg1 rfl 20 (by decide) kwX8_isAhead_1 rfl (v := .ref (g.1 12 20)) rfl dX8_isAhead_16 ?_
    refine lv_iload_n hx hb dX8_isAhead_19 rfl (lv_at hl 1 rfl) ?_
    refine g_iald X Y hG (hpr 12 (by decide)) (k := 20) (by decide) (j := a0) (show a0 < 60 by omega) (v := τ.1 20 a0) rfl dX8_isAhead_20 ?_
    refine lv_aload_n hx hb dX8_isAhead_21 rfl (lv_at hl 0 rfl) ?_
    refine m_get (ref := "CardPortModel") (C := RX8) (T := TX8) (N := 25) (ci := 9) X Y htX8_isAhead_wsX801 hg1 rfl 20 (by decide) kwX8_isAhead_1 rfl (v := .ref (g.1 12 20)) rfl dX8_isAhead_22 ?_
    refine lv_iload_n hx hb dX8_isAhead_25 rfl (lv_at hl 2 rfl) ?_
    refine g_iald X Y hG (hpr 12 (by decide)) (k := 20) (by decide) (j := b0) (show b0 < 60 by omega) (v := τ.1 20 b0) rfl dX8_isAhead_26 ?_
    refine n_icmp_ge hx hb 34 (by omega) (by omega) dX8_isAhead_27 (by decide) (fun c27 => ?_) (fun c27 => ?_)
    · refine n_iconst hx hb 0 dX8_isAhead_34 (by decide) ?_
      refine m_zret X Y hr hlocks (by decide) (by decide) (by rfl) ?_ dX8_isAhead_35
      exact ⟨(bN_f (by unfold ahd; omega)).symm, rfl⟩
    · refine n_iconst hx hb 1 dX8_isAhead_30 (by decide) ?_
      refine lv_goto (tgt := 35) hx hb dX8_isAhead_31 (by decide) ?_
      refine m_zret X Y hr hlocks (by decide) (by decide) (by rfl) ?_ dX8_isAhead_35
      exact ⟨(bN_t (by unfold ahd; omega)).symm, rfl⟩
def miN (τ : Sg) (x : Int32) (how : Nat) : Nat := if vI x (nB τ) = true then (if τ.1 17 (ix x) = how then 0 else 2) else 1
theorem kwX8_misses_1 : Cond.fieldLink RX8 136 "CardPortModel" "chargebacks" "I" ∈ wsX8_misses := List.mem_of_getElem? (i := 1) rfl
theorem htX8_misses_wsX801 : ∀ w ∈ wsX80, w ∈ wsX8_misses := fun _ h => List.mem_cons_of_mem _ (List.mem_append_right _ h)
theorem kwX8_misses_2 : Cond.fieldLink RX8 50 "CardPortModel" "state" "[I" ∈ wsX8_misses := List.mem_of_getElem? (i := 2) rfl
set_option maxHeartbeats 4000000 in
set_option maxRecDepth 100000 in
theorem c_m_misses (l : Launch) (D : va_G) (kc : Nat → ClassId) (A : Nat → Prop) (e0 : Nat × Nat) (M : Mp) {pr : Nat → Prop} {σ τ : Sg} {th : Int32} {o : Int64} {g : Gh} {nn : Nat} (hG : G pr kc e0 σ τ th o g M) (hwf : WS nn τ) (hpr : ∀ t, t ≤ 13 → pr t) (v : Int32) (how : Nat) (hh : how < 5) : Met l yX8_misses wsX8_misses ({ frames := 1, cells := 0, slots := 0, locals := 22 }) (mPre D kc A e0 M [.ref (g.1 11 0), .int v, .int (nI how)]) (va_Qi (fun r M1 => r = nI (miN τ v how) ∧ M1 = M) (mB D A) A) 0 0 A := by
  refine Met.ofW (cc := cX8_misses) (maxL := 3) (ret := (some .int)) (by decide) rfl ?_
  intro p e s m args below meth c s₁ B hml hv
  obtain ⟨rfl, hw, hK, hA, hcx⟩ := hv
  have X : mX p s m _ c cX8_misses 3 RX8 wsX8_misses D kc := ⟨⟨B.exec, B.bytes, hml, findClass_of_methodNamed B.named, atoms_spec (ws := wsX8_misses) B.pre⟩, hK⟩
  have hx := B.exec
  have hb := B.bytes
  have hr := B.returns
  have hlocks := B.notSynchronized
  have Y : mY D A M s s.heap [] := ⟨hw, va_S.rf⟩
  have hl := lv_entry ([.ref (g.1 11 0), .int v, .int (nI how)]) (n := 3) (Nat.le_of_ble_eq_true rfl)
  rw [lg_entry_eq]
  generalize (lg_sl ([.ref (g.1 11 0), .int v, .int (nI how)]) ++ List.replicate (3 - (lg_sl ([.ref (g.1 11 0), .int v, .int (nI how)])).length) Slot.unset).toArray = ls at hl ⊢
  have hl : lv_has ls 3 [(0, .ref (g.1 11 0)), (1, .int v), (2, .int (nI how))] := hl
  have hwn := hwf.2.2.2.1
  have hwd := hwf.1
  cases hva : vI v (nB τ) with
  | false =>
    refine lv_iload_n hx hb dX8_misses_0 rfl (lv_at hl 1 rfl) ?_
    refine n_iconst hx hb 0 dX8_misses_1 (by decide) ?_
    refine lv_aload_n hx hb dX8_misses_2 rfl (lv_at hl 0 rfl) ?_
    have hg1 := hG.f11 (hpr 11 (by decide))
    refine m_get (ref := "CardPortModel") (C := RX8) (T := TX8) (N := 25) (ci := 9) X Y htX8_misses_wsX801 hg1 rfl 16 (by decide) kwX8_misses_1 rfl (v := .int (nI (nB τ))) rfl dX8_misses_3 ?_
    refine n_iconst hx hb 1 dX8_misses_6 (by decide) ?_
    refine lv_isub hx hb dX8_misses_7 ?_
    refine m_rSi (As := [.int v, .int (nI 0), .int ((nI (nB τ)) - (nI 1))]) (rest := []) X Y hA hcx (c_m_isIn l D kc A e0 M v 0 (nI (nB τ) - nI 1)) (va_cwS 3 X.1.2.2.2.2 gX8_misses_X8_isIn rfl rfl rfl (by decide +kernel) ⟨Nat.le_of_ble_eq_true rfl, Nat.le_of_ble_eq_true rfl⟩) rfl rfl hl.1 (Nat.le_of_ble_eq_true rfl) dX8_misses_8 ⟨by decide, by decide⟩ (fun H locs Y => ?_)
    refine n_top (bN_c (isIn_vI (by omega))) ?_
    refine n_top (bN_f (by rw [hva]; decide)) ?_
    refine n_if_ne hx hb 18 (by omega) dX8_misses_11 (by decide) (fun zq => absurd zq (by decide)) (fun _ => ?_)
    refine n_iconst hx hb 1 dX8_misses_14 (by decide) ?_
    refine lv_goto (tgt := 33) hx hb dX8_misses_15 (by decide) ?_
    refine m_iret X Y hr hlocks (by decide) (by decide) ?_ dX8_misses_33
    exact ⟨by unfold miN; rw [if_neg (by rw [hva]; decide)], rfl⟩
  | true =>
    obtain ⟨jv, hjv, hlv, rfl⟩ := vI_t hva
    have hw9 := hwf.2.2.2.2.2.2.2.2 _ hjv
    refine lv_iload_n hx hb dX8_misses_0 rfl (lv_at hl 1 rfl) ?_
    refine n_iconst hx hb 0 dX8_misses_1 (by decide) ?_
    refine lv_aload_n hx hb dX8_misses_2 rfl (lv_at hl 0 rfl) ?_
    have hg2 := hG.f11 (hpr 11 (by decide))
    refine m_get (ref := "CardPortModel") (C := RX8) (T := TX8) (N := 25) (ci := 9) X Y htX8_misses_wsX801 hg2 rfl 16 (by decide) kwX8_misses_1 rfl (v := .int (nI (nB τ))) rfl dX8_misses_3 ?_
    refine n_iconst hx hb 1 dX8_misses_6 (by decide) ?_
    refine lv_isub hx hb dX8_misses_7 ?_
    refine m_rSi (As := [.int (nI jv), .int (nI 0), .int ((nI (nB τ)) - (nI 1))]) (rest := []) X Y hA hcx (c_m_isIn l D kc A e0 M (nI jv) 0 (nI (nB τ) - nI 1)) (va_cwS 3 X.1.2.2.2.2 gX8_misses_X8_isIn rfl rfl rfl (by decide +kernel) ⟨Nat.le_of_ble_eq_true rfl, Nat.le_of_ble_eq_true rfl⟩) rfl rfl hl.1 (Nat.le_of_ble_eq_true rfl) dX8_misses_8 ⟨by decide, by decide⟩ (fun H locs Y => ?_)
    refine n_top (bN_c (isIn_vI (by omega))) ?_
    refine n_top (bN_t hva) ?_
    refine n_if_ne hx hb 18 (by omega) dX8_misses_11 (by decide) (fun _ => ?_) (fun zq => absurd zq (by decide))
    refine lv_aload_n hx hb dX8_misses_18 rfl (lv_at hl 0 rfl) ?_
    refine m_get (ref := "CardPortModel") (C := RX8) (T := TX8) (N := 25) (ci := 9) X Y htX8_misses_wsX801 hg2 rfl 17 (by decide) kwX8_misses_2 rfl (v := .ref (g.1 12 17)) rfl dX8_misses_19 ?_
    refine lv_iload_n hx hb dX8_misses_22 rfl (lv_at hl 1 rfl) ?_
    refine g_iald X Y hG (hpr 12 (by decide)) (k := 17) (by decide) (j := jv) (show jv < 60 by omega) (v := τ.1 17 jv) rfl dX8_misses_23 ?_
    refine lv_iload_n hx hb dX8_misses_24 rfl (lv_at hl 2 rfl) ?_
    refine n_icmp_eq hx hb 32 (by omega) (by omega) dX8_misses_25 (by decide) (fun c25 => ?_) (fun c25 => ?_)
    · refine n_iconst hx hb 0 dX8_misses_32 (by decide) ?_
      refine m_iret X Y hr hlocks (by decide) (by decide) ?_ dX8_misses_33
      exact ⟨by unfold miN; rw [if_pos hva, ix_nI hlv, if_pos (by omega)], rfl⟩
    · refine n_iconst hx hb 2 dX8_misses_28 (by decide) ?_
      refine lv_goto (tgt := 33) hx hb dX8_misses_29 (by decide) ?_
      refine m_iret X Y hr hlocks (by decide) (by decide) ?_ dX8_misses_33
      exact ⟨by unfold miN; rw [if_pos hva, ix_nI hlv, if_neg (by omega)], rfl⟩
