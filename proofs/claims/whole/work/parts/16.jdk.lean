set_option maxHeartbeats 4000000 in
set_option maxRecDepth 100000 in
theorem c_J3 (l : Launch) (D : va_G) (kc : Nat → ClassId) (A : Nat → Prop) (e0 : Nat × Nat) (M : Mp) (k ct : Nat) (h1 : k < ct) (h2 : ct < 2147483648) : Met l yJ3_checkIndex_8e157 wsJ3_checkIndex_8e157 ({ frames := 0, cells := 0, slots := 0, locals := 0 }) (mPre D kc A e0 M [.int (nI k), .int (nI ct), .null]) (va_Qi (fun r M1 => r = nI k ∧ M1 = M) (mB D A) A) 0 0 A := by
  refine Met.ofW (cc := cJ3_checkIndex_8e157) (maxL := 3) (ret := (some .int)) (by decide) rfl ?_
  intro p e s m args below meth c s₁ B hml hv
  obtain ⟨rfl, hw, hK, hA, hcx⟩ := hv
  have X : mX p s m _ c cJ3_checkIndex_8e157 3 RJ3 wsJ3_checkIndex_8e157 D kc := ⟨⟨B.exec, B.bytes, hml, findClass_of_methodNamed B.named, atoms_spec (ws := wsJ3_checkIndex_8e157) B.pre⟩, hK⟩
  have hx := B.exec
  have hb := B.bytes
  have hr := B.returns
  have hlocks := B.notSynchronized
  have Y : mY D A M s s.heap [] := ⟨hw, va_S.rf⟩
  have hl := lv_entry ([.int (nI k), .int (nI ct), .null]) (n := 3) (Nat.le_of_ble_eq_true rfl)
  rw [lg_entry_eq]
  generalize (lg_sl ([.int (nI k), .int (nI ct), .null]) ++ List.replicate (3 - (lg_sl ([.int (nI k), .int (nI ct), .null])).length) Slot.unset).toArray = ls at hl ⊢
  have hl : lv_has ls 3 [(0, .int (nI k)), (1, .int (nI ct)), (2, .null)] := hl
  refine lv_iload_n hx hb dJ3_checkIndex_8e157_0 rfl (lv_at hl 0 rfl) ?_
  refine lv_if_lt (tgt := 9) hx hb dJ3_checkIndex_8e157_1 (by decide) (fun zq => absurd zq (nI_pos (by omega))) (fun _ => ?_)
  refine lv_iload_n hx hb dJ3_checkIndex_8e157_4 rfl (lv_at hl 0 rfl) ?_
  refine lv_iload_n hx hb dJ3_checkIndex_8e157_5 rfl (lv_at hl 1 rfl) ?_
  refine n_icmp_lt hx hb 16 (by omega) (by omega) dJ3_checkIndex_8e157_6 (by decide) (fun _ => ?_) (fun zq => absurd zq (by omega))
  refine lv_iload_n hx hb dJ3_checkIndex_8e157_16 rfl (lv_at hl 0 rfl) ?_
  refine m_iret X Y hr hlocks (by decide) (by decide) ?_ dJ3_checkIndex_8e157_17
  exact ⟨rfl, rfl⟩
set_option maxHeartbeats 4000000 in
set_option maxRecDepth 100000 in
theorem c_J15 (l : Launch) (D : va_G) (kc : Nat → ClassId) (A : Nat → Prop) (e0 : Nat × Nat) (M : Mp) (k ct : Nat) (h1 : k < ct) (h2 : ct < 2147483648) : Met l yJ15_checkIndex_7cf53 wsJ15_checkIndex_7cf53 ({ frames := 1, cells := 0, slots := 0, locals := 22 }) (mPre D kc A e0 M [.int (nI k), .int (nI ct)]) (va_Qi (fun r M1 => r = nI k ∧ M1 = M) (mB D A) A) 0 0 A := by
  refine Met.ofW (cc := cJ15_checkIndex_7cf53) (maxL := 2) (ret := (some .int)) (by decide) rfl ?_
  intro p e s m args below meth c s₁ B hml hv
  obtain ⟨rfl, hw, hK, hA, hcx⟩ := hv
  have X : mX p s m _ c cJ15_checkIndex_7cf53 2 RJ15 wsJ15_checkIndex_7cf53 D kc := ⟨⟨B.exec, B.bytes, hml, findClass_of_methodNamed B.named, atoms_spec (ws := wsJ15_checkIndex_7cf53) B.pre⟩, hK⟩
  have hx := B.exec
  have hb := B.bytes
  have hr := B.returns
  have hlocks := B.notSynchronized
  have Y : mY D A M s s.heap [] := ⟨hw, va_S.rf⟩
  have hl := lv_entry ([.int (nI k), .int (nI ct)]) (n := 2) (Nat.le_of_ble_eq_true rfl)
  rw [lg_entry_eq]
  generalize (lg_sl ([.int (nI k), .int (nI ct)]) ++ List.replicate (2 - (lg_sl ([.int (nI k), .int (nI ct)])).length) Slot.unset).toArray = ls at hl ⊢
  have hl : lv_has ls 2 [(0, .int (nI k)), (1, .int (nI ct))] := hl
  refine lv_iload_n hx hb dJ15_checkIndex_7cf53_0 rfl (lv_at hl 0 rfl) ?_
  refine lv_iload_n hx hb dJ15_checkIndex_7cf53_1 rfl (lv_at hl 1 rfl) ?_
  refine lv_null hx hb dJ15_checkIndex_7cf53_2 ?_
  refine m_rSi (As := [.int (nI k), .int (nI ct), .null]) (rest := []) X Y hA hcx (c_J3 l D kc A e0 M k ct h1 h2) (va_cwS 3 X.1.2.2.2.2 gJ15_checkIndex_7cf53_J3_checkIndex_8e157 rfl rfl rfl (by decide +kernel) ⟨Nat.le_of_ble_eq_true rfl, Nat.le_of_ble_eq_true rfl⟩) rfl rfl hl.1 (Nat.le_of_ble_eq_true rfl) dJ15_checkIndex_7cf53_3 ⟨by decide, by decide⟩ (fun H locs Y => ?_)
  refine m_iret X Y hr hlocks (by decide) (by decide) ?_ dJ15_checkIndex_7cf53_6
  exact ⟨rfl, rfl⟩
theorem kwJx4a65c_size_8abf5_1 : Cond.fieldLink RJx4a65c 48 "java/util/ArrayList" "size" "I" ∈ wsJx4a65c_size_8abf5 := List.mem_of_getElem? (i := 1) rfl
theorem htJx4a65c_size_8abf5_wsJx4a65c01 : ∀ w ∈ wsJx4a65c0, w ∈ wsJx4a65c_size_8abf5 := fun _ h => List.mem_cons_of_mem _ (List.mem_append_right _ h)
set_option maxHeartbeats 4000000 in
set_option maxRecDepth 100000 in
theorem c_size (l : Launch) (D : va_G) (kc : Nat → ClassId) (A : Nat → Prop) (e0 : Nat × Nat) (M : Mp) (L ar ct : Nat) (mo : Int32) (hm : M L = some (.inr (0, [.int mo, .ref ar, .int (nI ct)]))) : Met l yJx4a65c_size_8abf5 wsJx4a65c_size_8abf5 ({ frames := 0, cells := 0, slots := 0, locals := 0 }) (mPre D kc A e0 M [.ref L]) (va_Qi (fun r M1 => r = nI ct ∧ M1 = M) (mB D A) A) 0 0 A := by
  refine Met.ofW (cc := cJx4a65c_size_8abf5) (maxL := 1) (ret := (some .int)) (by decide) rfl ?_
  intro p e s m args below meth c s₁ B hml hv
  obtain ⟨rfl, hw, hK, hA, hcx⟩ := hv
  have X : mX p s m _ c cJx4a65c_size_8abf5 1 RJx4a65c wsJx4a65c_size_8abf5 D kc := ⟨⟨B.exec, B.bytes, hml, findClass_of_methodNamed B.named, atoms_spec (ws := wsJx4a65c_size_8abf5) B.pre⟩, hK⟩
  have hx := B.exec
  have hb := B.bytes
  have hr := B.returns
  have hlocks := B.notSynchronized
  have Y : mY D A M s s.heap [] := ⟨hw, va_S.rf⟩
  have hl := lv_entry ([.ref L]) (n := 1) (Nat.le_of_ble_eq_true rfl)
  rw [lg_entry_eq]
  generalize (lg_sl ([.ref L]) ++ List.replicate (1 - (lg_sl ([.ref L])).length) Slot.unset).toArray = ls at hl ⊢
  have hl : lv_has ls 1 [(0, .ref L)] := hl
  refine lv_aload_n hx hb dJx4a65c_size_8abf5_0 rfl (lv_at hl 0 rfl) ?_
  refine m_get (ref := "java/util/ArrayList") (C := RJx4a65c) (T := TJx4a65c) (N := 3) (ci := 0) X Y htJx4a65c_size_8abf5_wsJx4a65c01 hm rfl 2 (by decide) kwJx4a65c_size_8abf5_1 rfl (v := .int (nI ct)) rfl dJx4a65c_size_8abf5_1 ?_
  refine m_iret X Y hr hlocks (by decide) (by decide) ?_ dJx4a65c_size_8abf5_4
  exact ⟨rfl, rfl⟩
theorem kwJx4a65c_elementData_915e3_1 : Cond.fieldLink RJx4a65c 9 "java/util/ArrayList" "elementData" "[Ljava/lang/Object;" ∈ wsJx4a65c_elementData_915e3 := List.mem_of_getElem? (i := 1) rfl
theorem htJx4a65c_elementData_915e3_wsJx4a65c01 : ∀ w ∈ wsJx4a65c0, w ∈ wsJx4a65c_elementData_915e3 := fun _ h => List.mem_cons_of_mem _ (List.mem_append_right _ h)
set_option maxHeartbeats 4000000 in
set_option maxRecDepth 100000 in
theorem c_elementData (l : Launch) (D : va_G) (kc : Nat → ClassId) (A : Nat → Prop) (e0 : Nat × Nat) (M : Mp) (L ar ct z k v : Nat) (mo : Int32) (f : Nat → Option Nat) (hm : M L = some (.inr (0, [.int mo, .ref ar, .int (nI ct)]))) (ha : M ar = some (qrow (kc 7) z f)) (h1 : k < ct) (h2 : ct ≤ z) (h3 : z < 2147483648) (hf : f k = some v) : Met l yJx4a65c_elementData_915e3 wsJx4a65c_elementData_915e3 ({ frames := 0, cells := 0, slots := 0, locals := 0 }) (mPre D kc A e0 M [.ref L, .int (nI k)]) (va_Qq (fun r M1 => r = some v ∧ M1 = M) (mB D A) A) 0 0 A := by
  refine Met.ofW (cc := cJx4a65c_elementData_915e3) (maxL := 2) (ret := (some (.object "java/lang/Object"))) (by decide) rfl ?_
  intro p e s m args below meth c s₁ B hml hv
  obtain ⟨rfl, hw, hK, hA, hcx⟩ := hv
  have X : mX p s m _ c cJx4a65c_elementData_915e3 2 RJx4a65c wsJx4a65c_elementData_915e3 D kc := ⟨⟨B.exec, B.bytes, hml, findClass_of_methodNamed B.named, atoms_spec (ws := wsJx4a65c_elementData_915e3) B.pre⟩, hK⟩
  have hx := B.exec
  have hb := B.bytes
  have hr := B.returns
  have hlocks := B.notSynchronized
  have Y : mY D A M s s.heap [] := ⟨hw, va_S.rf⟩
  have hl := lv_entry ([.ref L, .int (nI k)]) (n := 2) (Nat.le_of_ble_eq_true rfl)
  rw [lg_entry_eq]
  generalize (lg_sl ([.ref L, .int (nI k)]) ++ List.replicate (2 - (lg_sl ([.ref L, .int (nI k)])).length) Slot.unset).toArray = ls at hl ⊢
  have hl : lv_has ls 2 [(0, .ref L), (1, .int (nI k))] := hl
  refine lv_aload_n hx hb dJx4a65c_elementData_915e3_0 rfl (lv_at hl 0 rfl) ?_
  refine m_get (ref := "java/util/ArrayList") (C := RJx4a65c) (T := TJx4a65c) (N := 3) (ci := 0) X Y htJx4a65c_elementData_915e3_wsJx4a65c01 hm rfl 1 (by decide) kwJx4a65c_elementData_915e3_1 rfl (v := .ref ar) rfl dJx4a65c_elementData_915e3_1 ?_
  refine lv_iload_n hx hb dJx4a65c_elementData_915e3_4 rfl (lv_at hl 1 rfl) ?_
  refine m_aald X Y 7 (C := "java/lang/Object") rfl ha (vp_in_nI (by omega) (by omega)) (v := v) (by rw [nI_cl (by omega)]; exact hf) dJx4a65c_elementData_915e3_5 ?_
  refine m_aret X Y hr (Or.inl ⟨_, rfl⟩) hlocks (by decide) (by decide) (some v) ?_ dJx4a65c_elementData_915e3_6
  exact ⟨rfl, rfl⟩
theorem kwJx4a65c_get_915e3_1 : Cond.fieldLink RJx4a65c 48 "java/util/ArrayList" "size" "I" ∈ wsJx4a65c_get_915e3 := List.mem_of_getElem? (i := 1) rfl
theorem htJx4a65c_get_915e3_wsJx4a65c01 : ∀ w ∈ wsJx4a65c0, w ∈ wsJx4a65c_get_915e3 := fun _ h => List.mem_cons_of_mem _ (List.mem_append_right _ h)
set_option maxHeartbeats 4000000 in
set_option maxRecDepth 100000 in
theorem c_get (l : Launch) (D : va_G) (kc : Nat → ClassId) (A : Nat → Prop) (e0 : Nat × Nat) (M : Mp) (L ar ct z k v : Nat) (mo : Int32) (f : Nat → Option Nat) (hm : M L = some (.inr (0, [.int mo, .ref ar, .int (nI ct)]))) (ha : M ar = some (qrow (kc 7) z f)) (h1 : k < ct) (h2 : ct ≤ z) (h3 : z < 2147483648) (hf : f k = some v) : Met l yJx4a65c_get_915e3 wsJx4a65c_get_915e3 ({ frames := 2, cells := 0, slots := 0, locals := 43 }) (mPre D kc A e0 M [.ref L, .int (nI k)]) (va_Qq (fun r M1 => r = some v ∧ M1 = M) (mB D A) A) 0 0 A := by
  refine Met.ofW (cc := cJx4a65c_get_915e3) (maxL := 2) (ret := (some (.object "java/lang/Object"))) (by decide) rfl ?_
  intro p e s m args below meth c s₁ B hml hv
  obtain ⟨rfl, hw, hK, hA, hcx⟩ := hv
  have X : mX p s m _ c cJx4a65c_get_915e3 2 RJx4a65c wsJx4a65c_get_915e3 D kc := ⟨⟨B.exec, B.bytes, hml, findClass_of_methodNamed B.named, atoms_spec (ws := wsJx4a65c_get_915e3) B.pre⟩, hK⟩
  have hx := B.exec
  have hb := B.bytes
  have hr := B.returns
  have hlocks := B.notSynchronized
  have Y : mY D A M s s.heap [] := ⟨hw, va_S.rf⟩
  have hl := lv_entry ([.ref L, .int (nI k)]) (n := 2) (Nat.le_of_ble_eq_true rfl)
  rw [lg_entry_eq]
  generalize (lg_sl ([.ref L, .int (nI k)]) ++ List.replicate (2 - (lg_sl ([.ref L, .int (nI k)])).length) Slot.unset).toArray = ls at hl ⊢
  have hl : lv_has ls 2 [(0, .ref L), (1, .int (nI k))] := hl
  refine lv_iload_n hx hb dJx4a65c_get_915e3_0 rfl (lv_at hl 1 rfl) ?_
  refine lv_aload_n hx hb dJx4a65c_get_915e3_1 rfl (lv_at hl 0 rfl) ?_
  refine m_get (ref := "java/util/ArrayList") (C := RJx4a65c) (T := TJx4a65c) (N := 3) (ci := 0) X Y htJx4a65c_get_915e3_wsJx4a65c01 hm rfl 2 (by decide) kwJx4a65c_get_915e3_1 rfl (v := .int (nI ct)) rfl dJx4a65c_get_915e3_2 ?_
  refine m_rSi (As := [.int (nI k), .int (nI ct)]) (rest := []) X Y hA hcx (c_J15 l D kc A e0 M k ct h1 (by omega)) (va_cwS 2 X.1.2.2.2.2 gJx4a65c_get_915e3_J15_checkIndex_7cf53 rfl rfl rfl (by decide +kernel) ⟨Nat.le_of_ble_eq_true rfl, Nat.le_of_ble_eq_true rfl⟩) rfl rfl hl.1 (Nat.le_of_ble_eq_true rfl) dJx4a65c_get_915e3_5 ⟨by decide, by decide⟩ (fun H locs Y => ?_)
  refine lv_pop hx hb dJx4a65c_get_915e3_8 rfl ?_
  refine lv_aload_n hx hb dJx4a65c_get_915e3_9 rfl (lv_at hl 0 rfl) ?_
  refine lv_iload_n hx hb dJx4a65c_get_915e3_10 rfl (lv_at hl 1 rfl) ?_
  refine m_rVq (As := [.int (nI k)]) (rest := []) X Y hA hcx (c_elementData l D kc A e0 M L ar ct z k v mo f hm ha h1 h2 h3 hf) (cwV 1 X.1.2.2.2.2 gJx4a65c_get_915e3_Jx4a65c_elementData_915e3 rfl rfl rfl (by decide +kernel) ⟨Nat.le_of_ble_eq_true rfl, Nat.le_of_ble_eq_true rfl⟩) hm rfl rfl rfl hl.1 (Nat.le_of_ble_eq_true rfl) dJx4a65c_get_915e3_11 ⟨by decide, by decide⟩ (fun H locs Y => ?_)
  refine m_aret X Y hr (Or.inl ⟨_, rfl⟩) hlocks (by decide) (by decide) (some v) ?_ dJx4a65c_get_915e3_14
  exact ⟨rfl, rfl⟩
theorem kwJxa1e45_init_da8c8_1 : Cond.methodLink RJxa1e45 1 objectInit ∈ wsJxa1e45_init_da8c8 := List.mem_of_getElem? (i := 1) rfl
theorem kwJxa1e45_init_da8c8_2 : Cond.instanceMethod objectInit ∈ wsJxa1e45_init_da8c8 := List.mem_of_getElem? (i := 2) rfl
theorem kwJxa1e45_init_da8c8_3 : Cond.code objectInit ⟨#[0xb1]⟩ 1 none ∈ wsJxa1e45_init_da8c8 := List.mem_of_getElem? (i := 3) rfl
set_option maxHeartbeats 4000000 in
set_option maxRecDepth 100000 in
theorem c_AC_init (l : Launch) (D : va_G) (kc : Nat → ClassId) (A : Nat → Prop) (e0 : Nat × Nat) (M : Mp) (h0 : Nat) (x y : Int32) (hm : M h0 = some (.inr (0, [.int x, .null, .int y]))) : Met l yJxa1e45_init_da8c8 wsJxa1e45_init_da8c8 ({ frames := 1, cells := 0, slots := 0, locals := 20 }) (mPre D kc A e0 M [.ref h0]) (va_Qv (fun M1 => M1 = M) (mB D A) A) 0 0 A := by
  refine Met.ofW (cc := cJxa1e45_init_da8c8) (maxL := 1) (ret := none) (by decide) rfl ?_
  intro p e s m args below meth c s₁ B hml hv
  obtain ⟨rfl, hw, hK, hA, hcx⟩ := hv
  have X : mX p s m _ c cJxa1e45_init_da8c8 1 RJxa1e45 wsJxa1e45_init_da8c8 D kc := ⟨⟨B.exec, B.bytes, hml, findClass_of_methodNamed B.named, atoms_spec (ws := wsJxa1e45_init_da8c8) B.pre⟩, hK⟩
  have hx := B.exec
  have hb := B.bytes
  have hr := B.returns
  have hlocks := B.notSynchronized
  have hin : meth.name = "<init>" := (name_of_methodNamed B.named B.method).1
  have Y : mY D A M s s.heap [] := ⟨hw, va_S.rf⟩
  have hl := lv_entry ([.ref h0]) (n := 1) (Nat.le_of_ble_eq_true rfl)
  rw [lg_entry_eq]
  generalize (lg_sl ([.ref h0]) ++ List.replicate (1 - (lg_sl ([.ref h0])).length) Slot.unset).toArray = ls at hl ⊢
  have hl : lv_has ls 1 [(0, .ref h0)] := hl
  refine lv_aload_n hx hb dJxa1e45_init_da8c8_0 rfl (lv_at hl 0 rfl) ?_
  refine W.objInit hx hb X.1.2.2.2.1 (X.1.2.2.2.2 _ kwJxa1e45_init_da8c8_1) (X.1.2.2.2.2 _ kwJxa1e45_init_da8c8_2) (X.1.2.2.2.2 _ kwJxa1e45_init_da8c8_3) rfl (by rw [hml]; exact hl.1) rfl dJxa1e45_init_da8c8_1 (Nat.le_of_ble_eq_true rfl) (Nat.le_of_ble_eq_true rfl) ?_
  refine W.eq (g2 := F0 m 4 ls []) rfl ?_
  refine m_vret X Y hr hlocks (by decide) (by decide) ?_ dJxa1e45_init_da8c8_4
  exact rfl
theorem kwJxc12de_init_da8c8_4 : Cond.initialized RJxa1e45 ∈ wsJxc12de_init_da8c8 := List.mem_of_getElem? (i := 4) rfl
theorem kwJxc12de_init_da8c8_2 : Cond.methodLink RJxc12de 1 yJxa1e45_init_da8c8 ∈ wsJxc12de_init_da8c8 := List.mem_of_getElem? (i := 2) rfl
theorem kwJxc12de_init_da8c8_3 : Cond.instanceMethod yJxa1e45_init_da8c8 ∈ wsJxc12de_init_da8c8 := List.mem_of_getElem? (i := 3) rfl
theorem kwJxc12de_init_da8c8_1 : Cond.fieldLink RJxc12de 7 "java/util/AbstractList" "modCount" "I" ∈ wsJxc12de_init_da8c8 := List.mem_of_getElem? (i := 1) rfl
theorem htJxc12de_init_da8c8_wsJx4a65c01 : ∀ w ∈ wsJx4a65c0, w ∈ wsJxc12de_init_da8c8 := fun _ h => List.mem_cons_of_mem _ (List.mem_append_right _ h)
set_option maxHeartbeats 4000000 in
set_option maxRecDepth 100000 in
theorem c_AL_init (l : Launch) (D : va_G) (kc : Nat → ClassId) (A : Nat → Prop) (e0 : Nat × Nat) (M : Mp) (h0 : Nat) (x y : Int32) (hm : M h0 = some (.inr (0, [.int x, .null, .int y]))) : Met l yJxc12de_init_da8c8 wsJxc12de_init_da8c8 ({ frames := 2, cells := 0, slots := 0, locals := 40 }) (mPre D kc A e0 M [.ref h0]) (va_Qv (fun M1 => M1 = mu M h0 (.inr (0, [.int (nI 0), .null, .int y]))) (mB D A) A) 0 0 A := by
  refine Met.ofW (cc := cJxc12de_init_da8c8) (maxL := 1) (ret := none) (by decide) rfl ?_
  intro p e s m args below meth c s₁ B hml hv
  obtain ⟨rfl, hw, hK, hA, hcx⟩ := hv
  have X : mX p s m _ c cJxc12de_init_da8c8 1 RJxc12de wsJxc12de_init_da8c8 D kc := ⟨⟨B.exec, B.bytes, hml, findClass_of_methodNamed B.named, atoms_spec (ws := wsJxc12de_init_da8c8) B.pre⟩, hK⟩
  have hx := B.exec
  have hb := B.bytes
  have hr := B.returns
  have hlocks := B.notSynchronized
  have hin : meth.name = "<init>" := (name_of_methodNamed B.named B.method).1
  have Y : mY D A M s s.heap [] := ⟨hw, va_S.rf⟩
  have hl := lv_entry ([.ref h0]) (n := 1) (Nat.le_of_ble_eq_true rfl)
  rw [lg_entry_eq]
  generalize (lg_sl ([.ref h0]) ++ List.replicate (1 - (lg_sl ([.ref h0])).length) Slot.unset).toArray = ls at hl ⊢
  have hl : lv_has ls 1 [(0, .ref h0)] := hl
  refine lv_aload_n hx hb dJxc12de_init_da8c8_0 rfl (lv_at hl 0 rfl) ?_
  refine m_Iv (As := []) (rest := []) X Y hA hcx (c_AC_init l D kc A e0 M h0 x y hm) (cwI 0 X.1.2.2.2.2 gJxc12de_init_da8c8_Jxa1e45_init_da8c8 rfl rfl rfl (X.1.2.2.2.2 _ kwJxc12de_init_da8c8_4) (X.1.2.2.2.2 _ kwJxc12de_init_da8c8_2) (X.1.2.2.2.2 _ kwJxc12de_init_da8c8_3) rfl (by decide +kernel) ⟨Nat.le_of_ble_eq_true rfl, Nat.le_of_ble_eq_true rfl⟩) rfl rfl hl.1 (Nat.le_of_ble_eq_true rfl) dJxc12de_init_da8c8_1 ⟨by decide, by decide⟩ (fun M1 H locs p2 Y => ?_)
  rw [p2] at Y
  refine lv_aload_n hx hb dJxc12de_init_da8c8_4 rfl (lv_at hl 0 rfl) ?_
  refine n_iconst hx hb 0 dJxc12de_init_da8c8_5 (by decide) ?_
  refine m_put (ref := "java/util/AbstractList") (C := RJx4a65c) (T := TJx4a65c) (N := 3) (ci := 0) X Y htJxc12de_init_da8c8_wsJx4a65c01 tyJx4a65c tyJx4a65c_ok nmJx4a65c hm rfl 0 (by decide) kwJxc12de_init_da8c8_1 rfl rfl (v := .int (nI 0)) rfl rfl (Nat.le_of_ble_eq_true rfl) dJxc12de_init_da8c8_6 (fun H locs Y => ?_)
  obtain ⟨M3, eM3⟩ : ∃ zz9 : Mp, zz9 = mu M h0 (.inr (0, [.int (nI 0), .null, .int y])) := ⟨_, rfl⟩
  have Y : mY D A M3 s H locs := by rw [eM3]; exact Y
  have hh4 : M3 h0 = some (.inr (0, [.int (nI 0), .null, .int y])) := by rw [eM3]; exact mu_self _ _ _
  refine m_vret X Y hr hlocks (by decide) (by decide) ?_ dJxc12de_init_da8c8_9
  rw [eM3]
theorem kwJx4a65c_init_da8c8_5 : Cond.initialized RJxc12de ∈ wsJx4a65c_init_da8c8 := List.mem_of_getElem? (i := 5) rfl
theorem kwJx4a65c_init_da8c8_3 : Cond.methodLink RJx4a65c 1 yJxc12de_init_da8c8 ∈ wsJx4a65c_init_da8c8 := List.mem_of_getElem? (i := 3) rfl
theorem kwJx4a65c_init_da8c8_4 : Cond.instanceMethod yJxc12de_init_da8c8 ∈ wsJx4a65c_init_da8c8 := List.mem_of_getElem? (i := 4) rfl
theorem kwJx4a65c_init_da8c8_1 : Cond.fieldLink RJx4a65c 39 "java/util/ArrayList" "DEFAULTCAPACITY_EMPTY_ELEMENTDATA" "[Ljava/lang/Object;" ∈ wsJx4a65c_init_da8c8 := List.mem_of_getElem? (i := 1) rfl
theorem kwJx4a65c_init_da8c8_2 : Cond.fieldLink RJx4a65c 9 "java/util/ArrayList" "elementData" "[Ljava/lang/Object;" ∈ wsJx4a65c_init_da8c8 := List.mem_of_getElem? (i := 2) rfl
theorem htJx4a65c_init_da8c8_wsJx4a65c01 : ∀ w ∈ wsJx4a65c0, w ∈ wsJx4a65c_init_da8c8 := fun _ h => List.mem_cons_of_mem _ (List.mem_append_right _ h)
set_option maxHeartbeats 4000000 in
set_option maxRecDepth 100000 in
theorem c_ArrayList_init (l : Launch) (D : va_G) (kc : Nat → ClassId) (A : Nat → Prop) (e0 : Nat × Nat) (M : Mp) (h0 : Nat) (x y : Int32) (hm : M h0 = some (.inr (0, [.int x, .null, .int y]))) : Met l yJx4a65c_init_da8c8 wsJx4a65c_init_da8c8 ({ frames := 3, cells := 0, slots := 0, locals := 60 }) (mPre D kc A e0 M [.ref h0]) (va_Qv (fun M1 => M1 = mu M h0 (.inr (0, [.int (nI 0), .ref e0.1, .int y]))) (mB D A) A) 0 0 A := by
  refine Met.ofW (cc := cJx4a65c_init_da8c8) (maxL := 1) (ret := none) (by decide) rfl ?_
  intro p e s m args below meth c s₁ B hml hv
  obtain ⟨rfl, hw, hK, hA, hcx⟩ := hv
  have X : mX p s m _ c cJx4a65c_init_da8c8 1 RJx4a65c wsJx4a65c_init_da8c8 D kc := ⟨⟨B.exec, B.bytes, hml, findClass_of_methodNamed B.named, atoms_spec (ws := wsJx4a65c_init_da8c8) B.pre⟩, hK⟩
  have hx := B.exec
  have hb := B.bytes
  have hr := B.returns
  have hlocks := B.notSynchronized
  have hin : meth.name = "<init>" := (name_of_methodNamed B.named B.method).1
  have Y : mY D A M s s.heap [] := ⟨hw, va_S.rf⟩
  have hl := lv_entry ([.ref h0]) (n := 1) (Nat.le_of_ble_eq_true rfl)
  rw [lg_entry_eq]
  generalize (lg_sl ([.ref h0]) ++ List.replicate (1 - (lg_sl ([.ref h0])).length) Slot.unset).toArray = ls at hl ⊢
  have hl : lv_has ls 1 [(0, .ref h0)] := hl
  refine lv_aload_n hx hb dJx4a65c_init_da8c8_0 rfl (lv_at hl 0 rfl) ?_
  refine m_Iv (As := []) (rest := []) X Y hA hcx (c_AL_init l D kc A e0 M h0 x y hm) (cwI 0 X.1.2.2.2.2 gJx4a65c_init_da8c8_Jxc12de_init_da8c8 rfl rfl rfl (X.1.2.2.2.2 _ kwJx4a65c_init_da8c8_5) (X.1.2.2.2.2 _ kwJx4a65c_init_da8c8_3) (X.1.2.2.2.2 _ kwJx4a65c_init_da8c8_4) rfl (by decide +kernel) ⟨Nat.le_of_ble_eq_true rfl, Nat.le_of_ble_eq_true rfl⟩) rfl rfl hl.1 (Nat.le_of_ble_eq_true rfl) dJx4a65c_init_da8c8_1 ⟨by decide, by decide⟩ (fun M1 H locs p2 Y => ?_)
  have hm9 : M1 h0 = some (.inr (0, [.int (nI 0), .null, .int y])) := by rw [p2]; exact mu_self _ _ _
  refine lv_aload_n hx hb dJx4a65c_init_da8c8_4 rfl (lv_at hl 0 rfl) ?_
  refine m_gets X Y hcx kwJx4a65c_init_da8c8_1 dJx4a65c_init_da8c8_5 ?_
  refine m_put (ref := "java/util/ArrayList") (C := RJx4a65c) (T := TJx4a65c) (N := 3) (ci := 0) X Y htJx4a65c_init_da8c8_wsJx4a65c01 tyJx4a65c tyJx4a65c_ok nmJx4a65c hm9 rfl 1 (by decide) kwJx4a65c_init_da8c8_2 rfl rfl (v := .ref e0.1) rfl rfl (Nat.le_of_ble_eq_true rfl) dJx4a65c_init_da8c8_8 (fun H locs Y => ?_)
  obtain ⟨M3, eM3⟩ : ∃ zz9 : Mp, zz9 = mu M1 h0 (.inr (0, [.int (nI 0), .ref e0.1, .int y])) := ⟨_, rfl⟩
  have Y : mY D A M3 s H locs := by rw [eM3]; exact Y
  have hh4 : M3 h0 = some (.inr (0, [.int (nI 0), .ref e0.1, .int y])) := by rw [eM3]; exact mu_self _ _ _
  refine m_vret X Y hr hlocks (by decide) (by decide) ?_ dJx4a65c_init_da8c8_11
  rw [eM3, p2, mu_mu]
theorem kwJ8_newLength_cabcc_1 : Cond.methodLink RJ8 194 Lib.Math.max.name ∈ wsJ8_newLength_cabcc := List.mem_of_getElem? (i := 1) rfl
theorem kwJ8_newLength_cabcc_2 : Cond.static Lib.Math.max.name ∈ wsJ8_newLength_cabcc := List.mem_of_getElem? (i := 2) rfl
theorem kwJ8_newLength_cabcc_3 : Cond.initialized "java/lang/Math" ∈ wsJ8_newLength_cabcc := List.mem_of_getElem? (i := 3) rfl
theorem kwJ8_newLength_cabcc_4 : Cond.code Lib.Math.max.name Lib.Math.max.code 2 (some .int) ∈ wsJ8_newLength_cabcc := List.mem_of_getElem? (i := 4) rfl
theorem kwJ8_newLength_cabcc_5 : Cond.constant RJ8 200 (2147483639) ∈ wsJ8_newLength_cabcc := List.mem_of_getElem? (i := 5) rfl
set_option maxHeartbeats 4000000 in
set_option maxRecDepth 100000 in
theorem c_newLength (l : Launch) (D : va_G) (kc : Nat → ClassId) (A : Nat → Prop) (e0 : Nat × Nat) (M : Mp) (z : Nat) (h1 : 2 ≤ z) (h2 : z ≤ 1000) : Met l yJ8_newLength_cabcc wsJ8_newLength_cabcc ({ frames := 1, cells := 0, slots := 0, locals := 14 }) (mPre D kc A e0 M [.int (nI z), .int (nI 1), .int (nI (z / 2))]) (va_Qi (fun r M1 => r = nI (z + z / 2) ∧ M1 = M) (mB D A) A) 0 0 A := by
  refine Met.ofW (cc := cJ8_newLength_cabcc) (maxL := 4) (ret := (some .int)) (by decide) rfl ?_
  intro p e s m args below meth c s₁ B hml hv
  obtain ⟨rfl, hw, hK, hA, hcx⟩ := hv
  have X : mX p s m _ c cJ8_newLength_cabcc 4 RJ8 wsJ8_newLength_cabcc D kc := ⟨⟨B.exec, B.bytes, hml, findClass_of_methodNamed B.named, atoms_spec (ws := wsJ8_newLength_cabcc) B.pre⟩, hK⟩
  have hx := B.exec
  have hb := B.bytes
  have hr := B.returns
  have hlocks := B.notSynchronized
  have Y : mY D A M s s.heap [] := ⟨hw, va_S.rf⟩
  have hl := lv_entry ([.int (nI z), .int (nI 1), .int (nI (z / 2))]) (n := 4) (Nat.le_of_ble_eq_true rfl)
  rw [lg_entry_eq]
  generalize (lg_sl ([.int (nI z), .int (nI 1), .int (nI (z / 2))]) ++ List.replicate (4 - (lg_sl ([.int (nI z), .int (nI 1), .int (nI (z / 2))])).length) Slot.unset).toArray = ls at hl ⊢
  have hl : lv_has ls 4 [(0, .int (nI z)), (1, .int (nI 1)), (2, .int (nI (z / 2)))] := hl
  refine lv_iload_n hx hb dJ8_newLength_cabcc_0 rfl (lv_at hl 0 rfl) ?_
  refine lv_iload_n hx hb dJ8_newLength_cabcc_1 rfl (lv_at hl 1 rfl) ?_
  refine lv_iload_n hx hb dJ8_newLength_cabcc_2 rfl (lv_at hl 2 rfl) ?_
  refine n_mmax X hl.1 kwJ8_newLength_cabcc_1 kwJ8_newLength_cabcc_2 kwJ8_newLength_cabcc_3 kwJ8_newLength_cabcc_4 (Nat.le_of_ble_eq_true rfl) (Nat.le_of_ble_eq_true rfl) (by decide) (by decide) (by omega) (by omega) dJ8_newLength_cabcc_3 ?_
  rw [show (if 1 < z / 2 then z / 2 else 1) = z / 2 from (by by_cases q : 1 < z / 2; exact if_pos q; rw [if_neg q]; omega)]
  refine n_iadd hx hb dJ8_newLength_cabcc_6 ?_
  refine lv_istore_n (lv' := [(3, .int (nI (z + (z / 2)))), (0, .int (nI z)), (1, .int (nI 1)), (2, .int (nI (z / 2)))]) hx hb dJ8_newLength_cabcc_7 rfl hl (by decide) rfl (fun ls hl => ?_)
  refine n_iconst hx hb 0 dJ8_newLength_cabcc_8 (by decide) ?_
  refine lv_iload_n hx hb dJ8_newLength_cabcc_9 rfl (lv_at hl 0 rfl) ?_
  refine n_icmp_ge hx hb 21 (by omega) (by omega) dJ8_newLength_cabcc_10 (by decide) (fun zq => absurd zq (by omega)) (fun _ => ?_)
  refine lv_iload_n hx hb dJ8_newLength_cabcc_13 rfl (lv_at hl 0 rfl) ?_
  refine lv_ldc hx hb X.1.2.2.2.1 (X.1.2.2.2.2 _ kwJ8_newLength_cabcc_5) dJ8_newLength_cabcc_14 ?_
  refine n_top (y := nI 2147483639) (by decide) ?_
  refine n_icmp_gt hx hb 21 (by omega) (by omega) dJ8_newLength_cabcc_16 (by decide) (fun zq => absurd zq (by omega)) (fun _ => ?_)
  refine lv_iload_n hx hb dJ8_newLength_cabcc_19 rfl (lv_at hl 0 rfl) ?_
  refine m_iret X Y hr hlocks (by decide) (by decide) ?_ dJ8_newLength_cabcc_20
  exact ⟨rfl, rfl⟩
theorem kwJ7_copyOf_6403c_1 : Cond.classLink RJ7 110 "[Ljava/lang/Object;" ∈ wsJ7_copyOf_6403c := List.mem_of_getElem? (i := 1) rfl
theorem kwJ7_copyOf_6403c_2 : Cond.classLink RJ7 2 "java/lang/Object" ∈ wsJ7_copyOf_6403c := List.mem_of_getElem? (i := 2) rfl
theorem kwJ7_copyOf_6403c_3 : Cond.methodLink RJ7 304 Lib.Math.min.name ∈ wsJ7_copyOf_6403c := List.mem_of_getElem? (i := 3) rfl
theorem kwJ7_copyOf_6403c_4 : Cond.static Lib.Math.min.name ∈ wsJ7_copyOf_6403c := List.mem_of_getElem? (i := 4) rfl
theorem kwJ7_copyOf_6403c_5 : Cond.initialized "java/lang/Math" ∈ wsJ7_copyOf_6403c := List.mem_of_getElem? (i := 5) rfl
theorem kwJ7_copyOf_6403c_6 : Cond.code Lib.Math.min.name Lib.Math.min.code 2 (some .int) ∈ wsJ7_copyOf_6403c := List.mem_of_getElem? (i := 6) rfl
theorem kwJ7_copyOf_6403c_7 : Cond.methodLink RJ7 150 arraycopyName ∈ wsJ7_copyOf_6403c := List.mem_of_getElem? (i := 7) rfl
theorem kwJ7_copyOf_6403c_8 : Cond.native arraycopyName ∈ wsJ7_copyOf_6403c := List.mem_of_getElem? (i := 8) rfl
theorem kwJ7_copyOf_6403c_9 : Cond.static arraycopyName ∈ wsJ7_copyOf_6403c := List.mem_of_getElem? (i := 9) rfl
theorem kwJ7_copyOf_6403c_10 : Cond.initialized "java/lang/System" ∈ wsJ7_copyOf_6403c := List.mem_of_getElem? (i := 10) rfl
set_option maxHeartbeats 4000000 in
set_option maxRecDepth 100000 in
theorem c_copyOf2 (l : Launch) (D : va_G) (kc : Nat → ClassId) (A : Nat → Prop) (e0 : Nat × Nat) (M : Mp) (ci N : Nat) (C : String) (T : u_T) (hci : vwCl[ci]? = some (C, T, N)) (hca : (C, "java/lang/Object") ∈ cxC) (ar z w : Nat) (f : Nat → Option Nat) (ha : M ar = some (qrow (kc 7) z f)) (h1 : z ≤ w) (h2 : w ≤ 200) (hel : ∀ j, j < z → ∃ y vs, f j = some y ∧ M y = some (.inr (ci, vs))) : Met l yJ7_copyOf_6403c wsJ7_copyOf_6403c ({ frames := 1, cells := 1, slots := 200, locals := 40 }) (mPre D kc A e0 M [.ref ar, .int (nI w), .ref e0.2]) (va_Qq (fun r M1 => ∃ q, r = some q ∧ M q = none ∧ M1 = mu M q (qrow (kc 7) w (va_cpy f (fun _ => none) 0 0 z))) (mB D A) A) 1 200 A := by
  refine Met.ofW (cc := cJ7_copyOf_6403c) (maxL := 4) (ret := (some (.array (.object "java/lang/Object")))) (by decide) rfl ?_
  intro p e s m args below meth c s₁ B hml hv
  obtain ⟨rfl, hw, hK, hA, hcx⟩ := hv
  have X : mX p s m _ c cJ7_copyOf_6403c 4 RJ7 wsJ7_copyOf_6403c D kc := ⟨⟨B.exec, B.bytes, hml, findClass_of_methodNamed B.named, atoms_spec (ws := wsJ7_copyOf_6403c) B.pre⟩, hK⟩
  have hx := B.exec
  have hb := B.bytes
  have hr := B.returns
  have hlocks := B.notSynchronized
  have Y : mY D A M s s.heap [] := ⟨hw, va_S.rf⟩
  have hl := lv_entry ([.ref ar, .int (nI w), .ref e0.2]) (n := 4) (Nat.le_of_ble_eq_true rfl)
  rw [lg_entry_eq]
  generalize (lg_sl ([.ref ar, .int (nI w), .ref e0.2]) ++ List.replicate (4 - (lg_sl ([.ref ar, .int (nI w), .ref e0.2])).length) Slot.unset).toArray = ls at hl ⊢
  have hl : lv_has ls 4 [(0, .ref ar), (1, .int (nI w)), (2, .ref e0.2)] := hl
  refine lv_aload_n hx hb dJ7_copyOf_6403c_0 rfl (lv_at hl 2 rfl) ?_
  refine m_ldcM X hcx kwJ7_copyOf_6403c_1 dJ7_copyOf_6403c_1 ?_
  refine lv_acmp_ne (rx := some (e0.2)) (ry := some (e0.2)) (tgt := 13) hx hb dJ7_copyOf_6403c_3 (by decide) (fun zq => absurd zq (fun q => q rfl)) (fun _ => ?_)
  refine lv_iload_n hx hb dJ7_copyOf_6403c_6 rfl (lv_at hl 1 rfl) ?_
  refine m_newq X Y hA (C := "java/lang/Object") 7 rfl kwJ7_copyOf_6403c_2 (hcx.1.2.2.2.2.1 _ (by decide)) (w) (nI_pos (by omega)) (nI_cl (by omega)) (by omega) (by show 0 + 1 ≤ 1; omega) (by show 0 + (w) ≤ 200; omega) dJ7_copyOf_6403c_7 (fun q1 H fq1 Y => ?_)
  refine W.widen (k := 1) (n := 200) (by omega) (by omega) ?_
  obtain ⟨M2, eM2⟩ : ∃ zz9 : Mp, zz9 = mu M q1 (qrow (kc 7) (w) (fun _ => none)) := ⟨_, rfl⟩
  have Y : mY D A M2 s H [] := by rw [eM2]; exact Y
  have hh3 : M2 ar = some (qrow (kc 7) z f) := by rw [eM2, mu_ne _ _ (ne_fresh ha fq1)]; exact ha
  have hh4 : M2 q1 = some (qrow (kc 7) (w) (fun _ => none)) := by rw [eM2]; exact mu_self _ _ _
  refine lv_goto (tgt := 24) hx hb dJ7_copyOf_6403c_10 (by decide) ?_
  refine lv_astore_n (lv' := [(3, .ref q1), (0, .ref ar), (1, .int (nI w)), (2, .ref e0.2)]) hx hb dJ7_copyOf_6403c_24 rfl hl (by decide) rfl (fun ls hl => ?_)
  refine lv_aload_n hx hb dJ7_copyOf_6403c_25 rfl (lv_at hl 1 rfl) ?_
  refine n_iconst hx hb 0 dJ7_copyOf_6403c_26 (by decide) ?_
  refine lv_aload_n hx hb dJ7_copyOf_6403c_27 rfl (lv_at hl 0 rfl) ?_
  refine n_iconst hx hb 0 dJ7_copyOf_6403c_28 (by decide) ?_
  refine lv_aload_n hx hb dJ7_copyOf_6403c_29 rfl (lv_at hl 1 rfl) ?_
  refine m_alen X Y hh3 dJ7_copyOf_6403c_30 ?_
  refine lv_iload_n hx hb dJ7_copyOf_6403c_31 rfl (lv_at hl 2 rfl) ?_
  refine n_mmin X hl.1 kwJ7_copyOf_6403c_3 kwJ7_copyOf_6403c_4 kwJ7_copyOf_6403c_5 kwJ7_copyOf_6403c_6 (Nat.le_of_ble_eq_true rfl) (Nat.le_of_ble_eq_true rfl) (by decide) (by decide) (by omega) (by omega) dJ7_copyOf_6403c_32 ?_
  rw [show (if w < z then w else z) = z from if_neg (by omega)]
  refine m_copyq X Y hl.1 kwJ7_copyOf_6403c_7 kwJ7_copyOf_6403c_8 kwJ7_copyOf_6403c_9 kwJ7_copyOf_6403c_10 hh3 hh4 hci (hcx.1.2.1 _ hca) (by omega) (by omega) (by omega) ?_ (Nat.le_of_ble_eq_true rfl) (Nat.le_of_ble_eq_true rfl) dJ7_copyOf_6403c_35 (fun H locs Y => ?_)
  · intro j hj
    obtain ⟨y, vs, g1, g2⟩ := hel j hj
    exact ⟨y, vs, g1, by rw [eM2, mu_ne _ _ (ne_fresh g2 fq1)]; exact g2⟩
  obtain ⟨M5, eM5⟩ : ∃ zz9 : Mp, zz9 = mu M2 q1 (qrow (kc 7) (w) (va_cpy f (fun _ => none) 0 0 z)) := ⟨_, rfl⟩
  have Y : mY D A M5 s H locs := by rw [eM5]; exact Y
  have hh6 : M5 ar = some (qrow (kc 7) z f) := by rw [eM5, mu_ne _ _ (ne_fresh ha fq1)]; exact hh3
  have hh7 : M5 q1 = some (qrow (kc 7) (w) (va_cpy f (fun _ => none) 0 0 z)) := by rw [eM5]; exact mu_self _ _ _
  refine lv_aload_n hx hb dJ7_copyOf_6403c_38 rfl (lv_at hl 0 rfl) ?_
  refine m_aret X Y hr (Or.inr ⟨_, rfl⟩) hlocks (by decide) (by decide) (some q1) ?_ dJ7_copyOf_6403c_39
  refine ⟨q1, rfl, fq1, ?_⟩
  rw [eM5, eM2, mu_mu]
theorem kwJ7_copyOf_1904c_1 : Cond.methodLink RJ7 86 ⟨"java/lang/Object", "getClass", "()Ljava/lang/Class;"⟩ ∈ wsJ7_copyOf_1904c := List.mem_of_getElem? (i := 1) rfl
theorem kwJ7_copyOf_1904c_2 : Cond.selects "[Ljava/lang/Object;" ⟨"java/lang/Object", "getClass", "()Ljava/lang/Class;"⟩ ⟨"java/lang/Object", "getClass", "()Ljava/lang/Class;"⟩ ∈ wsJ7_copyOf_1904c := List.mem_of_getElem? (i := 2) rfl
theorem kwJ7_copyOf_1904c_3 : Cond.instanceMethod ⟨"java/lang/Object", "getClass", "()Ljava/lang/Class;"⟩ ∈ wsJ7_copyOf_1904c := List.mem_of_getElem? (i := 3) rfl
theorem kwJ7_copyOf_1904c_4 : Cond.native ⟨"java/lang/Object", "getClass", "()Ljava/lang/Class;"⟩ ∈ wsJ7_copyOf_1904c := List.mem_of_getElem? (i := 4) rfl
set_option maxHeartbeats 4000000 in
set_option maxRecDepth 100000 in
theorem c_copyOf (l : Launch) (D : va_G) (kc : Nat → ClassId) (A : Nat → Prop) (e0 : Nat × Nat) (M : Mp) (ci N : Nat) (C : String) (T : u_T) (hci : vwCl[ci]? = some (C, T, N)) (hca : (C, "java/lang/Object") ∈ cxC) (ar z w : Nat) (f : Nat → Option Nat) (ha : M ar = some (qrow (kc 7) z f)) (h1 : z ≤ w) (h2 : w ≤ 200) (hel : ∀ j, j < z → ∃ y vs, f j = some y ∧ M y = some (.inr (ci, vs))) : Met l yJ7_copyOf_1904c wsJ7_copyOf_1904c ({ frames := 2, cells := 1, slots := 200, locals := 63 }) (mPre D kc A e0 M [.ref ar, .int (nI w)]) (va_Qq (fun r M1 => ∃ q, r = some q ∧ M q = none ∧ M1 = mu M q (qrow (kc 7) w (va_cpy f (fun _ => none) 0 0 z))) (mB D A) A) 1 200 A := by
  refine Met.ofW (cc := cJ7_copyOf_1904c) (maxL := 2) (ret := (some (.array (.object "java/lang/Object")))) (by decide) rfl ?_
  intro p e s m args below meth c s₁ B hml hv
  obtain ⟨rfl, hw, hK, hA, hcx⟩ := hv
  have X : mX p s m _ c cJ7_copyOf_1904c 2 RJ7 wsJ7_copyOf_1904c D kc := ⟨⟨B.exec, B.bytes, hml, findClass_of_methodNamed B.named, atoms_spec (ws := wsJ7_copyOf_1904c) B.pre⟩, hK⟩
  have hx := B.exec
  have hb := B.bytes
  have hr := B.returns
  have hlocks := B.notSynchronized
  have Y : mY D A M s s.heap [] := ⟨hw, va_S.rf⟩
  have hl := lv_entry ([.ref ar, .int (nI w)]) (n := 2) (Nat.le_of_ble_eq_true rfl)
  rw [lg_entry_eq]
  generalize (lg_sl ([.ref ar, .int (nI w)]) ++ List.replicate (2 - (lg_sl ([.ref ar, .int (nI w)])).length) Slot.unset).toArray = ls at hl ⊢
  have hl : lv_has ls 2 [(0, .ref ar), (1, .int (nI w))] := hl
  refine lv_aload_n hx hb dJ7_copyOf_1904c_0 rfl (lv_at hl 0 rfl) ?_
  refine lv_iload_n hx hb dJ7_copyOf_1904c_1 rfl (lv_at hl 1 rfl) ?_
  refine lv_aload_n hx hb dJ7_copyOf_1904c_2 rfl (lv_at hl 0 rfl) ?_
  refine m_getC X Y hcx hl.1 kwJ7_copyOf_1904c_1 kwJ7_copyOf_1904c_2 kwJ7_copyOf_1904c_3 kwJ7_copyOf_1904c_4 ha (Nat.le_of_ble_eq_true rfl) (Nat.le_of_ble_eq_true rfl) dJ7_copyOf_1904c_3 ?_
  refine m_Sq (As := [.ref ar, .int (nI w), .ref e0.2]) (rest := []) X Y hA hcx (c_copyOf2 l D kc A e0 M ci N C T hci hca ar z w f ha h1 h2 hel) (va_cwS 3 X.1.2.2.2.2 gJ7_copyOf_1904c_J7_copyOf_6403c rfl rfl rfl (by decide +kernel) ⟨Nat.le_of_ble_eq_true rfl, Nat.le_of_ble_eq_true rfl⟩) rfl rfl hl.1 (Nat.le_of_ble_eq_true rfl) dJ7_copyOf_1904c_6 ⟨by decide, by decide⟩ (fun r1 M2 H locs p3 Y => ?_)
  obtain ⟨q, rfl, hq1, hq2⟩ := p3
  refine m_aret X Y hr (Or.inr ⟨_, rfl⟩) hlocks (by decide) (by decide) (some q) ?_ dJ7_copyOf_1904c_9
  exact ⟨q, rfl, hq1, hq2⟩
theorem nI_0lt {z : Nat} (h : 0 < z) (hb : z < 2147483648) : 0 < nI z := nI_lt h hb
theorem ne_cell {M : Mp} {a b : Nat} {e1 e2 : va_E} (h1 : M a = some e1) (h2 : M b = some e2) (h : e1 ≠ e2) : a ≠ b := fun z => h (by rw [z, h2] at h1; cases h1; rfl)
def addP (kc : Nat → ClassId) (M : Mp) (L x ct : Nat) (mo : Int32) (ar : Nat) (f : Nat → Option Nat) (M1 : Mp) : Prop := ∃ q w f2, M1 = mu (mu M q (qrow (kc 7) w f2)) L (.inr (0, [.int mo, .ref q, .int (nI (ct + 1))])) ∧ (∀ j, j < ct → f2 j = f j) ∧ f2 ct = some x ∧ ct + 1 ≤ w ∧ 10 ≤ w ∧ w ≤ 200 ∧ q ≠ L ∧ (M q = none ∨ (0 < ct ∧ q = ar))
theorem kwJx4a65c_grow_92f84_1 : Cond.fieldLink RJx4a65c 9 "java/util/ArrayList" "elementData" "[Ljava/lang/Object;" ∈ wsJx4a65c_grow_92f84 := List.mem_of_getElem? (i := 1) rfl
theorem htJx4a65c_grow_92f84_wsJx4a65c01 : ∀ w ∈ wsJx4a65c0, w ∈ wsJx4a65c_grow_92f84 := fun _ h => List.mem_cons_of_mem _ (List.mem_append_right _ h)
theorem kwJx4a65c_grow_92f84_2 : Cond.fieldLink RJx4a65c 39 "java/util/ArrayList" "DEFAULTCAPACITY_EMPTY_ELEMENTDATA" "[Ljava/lang/Object;" ∈ wsJx4a65c_grow_92f84 := List.mem_of_getElem? (i := 2) rfl
theorem kwJx4a65c_grow_92f84_3 : Cond.methodLink RJx4a65c 79 Lib.Math.max.name ∈ wsJx4a65c_grow_92f84 := List.mem_of_getElem? (i := 3) rfl
theorem kwJx4a65c_grow_92f84_4 : Cond.static Lib.Math.max.name ∈ wsJx4a65c_grow_92f84 := List.mem_of_getElem? (i := 4) rfl
theorem kwJx4a65c_grow_92f84_5 : Cond.initialized "java/lang/Math" ∈ wsJx4a65c_grow_92f84 := List.mem_of_getElem? (i := 5) rfl
theorem kwJx4a65c_grow_92f84_6 : Cond.code Lib.Math.max.name Lib.Math.max.code 2 (some .int) ∈ wsJx4a65c_grow_92f84 := List.mem_of_getElem? (i := 6) rfl
theorem kwJx4a65c_grow_92f84_7 : Cond.classLink RJx4a65c 7 "java/lang/Object" ∈ wsJx4a65c_grow_92f84 := List.mem_of_getElem? (i := 7) rfl
set_option maxHeartbeats 4000000 in
set_option maxRecDepth 100000 in
theorem c_growB (l : Launch) (D : va_G) (kc : Nat → ClassId) (A : Nat → Prop) (e0 : Nat × Nat) (M : Mp) (L : Nat) (mo : Int32) (hm : M L = some (.inr (0, [.int mo, .ref e0.1, .int (nI 0)]))) : Met l yJx4a65c_grow_92f84 wsJx4a65c_grow_92f84 ({ frames := 3, cells := 1, slots := 200, locals := 150 }) (mPre D kc A e0 M [.ref L, .int (nI 1)]) (va_Qq (fun r M1 => ∃ q, r = some q ∧ M q = none ∧ q ≠ L ∧ M1 = mu (mu M q (qrow (kc 7) 10 (fun _ => none))) L (.inr (0, [.int mo, .ref q, .int (nI 0)]))) (mB D A) A) 1 200 A := by
  refine Met.ofW (cc := cJx4a65c_grow_92f84) (maxL := 4) (ret := (some (.array (.object "java/lang/Object")))) (by decide) rfl ?_
  intro p e s m args below meth c s₁ B hml hv
  obtain ⟨rfl, hw, hK, hA, hcx⟩ := hv
  have X : mX p s m _ c cJx4a65c_grow_92f84 4 RJx4a65c wsJx4a65c_grow_92f84 D kc := ⟨⟨B.exec, B.bytes, hml, findClass_of_methodNamed B.named, atoms_spec (ws := wsJx4a65c_grow_92f84) B.pre⟩, hK⟩
  have hx := B.exec
  have hb := B.bytes
  have hr := B.returns
  have hlocks := B.notSynchronized
  have Y : mY D A M s s.heap [] := ⟨hw, va_S.rf⟩
  have hl := lv_entry ([.ref L, .int (nI 1)]) (n := 4) (Nat.le_of_ble_eq_true rfl)
  rw [lg_entry_eq]
  generalize (lg_sl ([.ref L, .int (nI 1)]) ++ List.replicate (4 - (lg_sl ([.ref L, .int (nI 1)])).length) Slot.unset).toArray = ls at hl ⊢
  have hl : lv_has ls 4 [(0, .ref L), (1, .int (nI 1))] := hl
  refine lv_aload_n hx hb dJx4a65c_grow_92f84_0 rfl (lv_at hl 0 rfl) ?_
  refine m_get (ref := "java/util/ArrayList") (C := RJx4a65c) (T := TJx4a65c) (N := 3) (ci := 0) X Y htJx4a65c_grow_92f84_wsJx4a65c01 hm rfl 1 (by decide) kwJx4a65c_grow_92f84_1 rfl (v := .ref e0.1) rfl dJx4a65c_grow_92f84_1 ?_
  refine m_alenT X Y hcx dJx4a65c_grow_92f84_4 ?_
  refine lv_istore_n (lv' := [(2, .int (nI 0)), (0, .ref L), (1, .int (nI 1))]) hx hb dJx4a65c_grow_92f84_5 rfl hl (by decide) rfl (fun ls hl => ?_)
  refine lv_iload_n hx hb dJx4a65c_grow_92f84_6 rfl (lv_at hl 0 rfl) ?_
  refine lv_if_gt (tgt := 20) hx hb dJx4a65c_grow_92f84_7 (by decide) (fun zq => absurd zq (by decide)) (fun _ => ?_)
  refine lv_aload_n hx hb dJx4a65c_grow_92f84_10 rfl (lv_at hl 1 rfl) ?_
  refine m_get (ref := "java/util/ArrayList") (C := RJx4a65c) (T := TJx4a65c) (N := 3) (ci := 0) X Y htJx4a65c_grow_92f84_wsJx4a65c01 hm rfl 1 (by decide) kwJx4a65c_grow_92f84_1 rfl (v := .ref e0.1) rfl dJx4a65c_grow_92f84_11 ?_
  refine m_gets X Y hcx kwJx4a65c_grow_92f84_2 dJx4a65c_grow_92f84_14 ?_
  refine lv_acmp_eq (rx := some (e0.1)) (ry := some (e0.1)) (tgt := 45) hx hb dJx4a65c_grow_92f84_17 (by decide) (fun _ => ?_) (fun zq => absurd rfl zq)
  refine lv_aload_n hx hb dJx4a65c_grow_92f84_45 rfl (lv_at hl 1 rfl) ?_
  refine n_bipush hx hb 10 dJx4a65c_grow_92f84_46 (by decide) ?_
  refine lv_iload_n hx hb dJx4a65c_grow_92f84_48 rfl (lv_at hl 2 rfl) ?_
  refine n_mmax X hl.1 kwJx4a65c_grow_92f84_3 kwJx4a65c_grow_92f84_4 kwJx4a65c_grow_92f84_5 kwJx4a65c_grow_92f84_6 (Nat.le_of_ble_eq_true rfl) (Nat.le_of_ble_eq_true rfl) (by decide) (by decide) (by omega) (by omega) dJx4a65c_grow_92f84_49 ?_
  rw [show (if 10 < 1 then 1 else 10) = 10 from rfl]
  refine m_newq X Y hA (C := "java/lang/Object") 7 rfl kwJx4a65c_grow_92f84_7 (hcx.1.2.2.2.2.1 _ (by decide)) (10) (nI_pos (by omega)) (nI_cl (by omega)) (by omega) (by show 0 + 1 ≤ 1; omega) (by show 0 + (10) ≤ 200; omega) dJx4a65c_grow_92f84_52 (fun q1 H fq1 Y => ?_)
  refine W.widen (k := 1) (n := 200) (by omega) (by omega) ?_
  obtain ⟨M2, eM2⟩ : ∃ zz9 : Mp, zz9 = mu M q1 (qrow (kc 7) (10) (fun _ => none)) := ⟨_, rfl⟩
  have Y : mY D A M2 s H [] := by rw [eM2]; exact Y
  have hh3 : M2 L = some (.inr (0, [.int mo, .ref e0.1, .int (nI 0)])) := by rw [eM2, mu_ne _ _ (ne_fresh hm fq1)]; exact hm
  have hh4 : M2 q1 = some (qrow (kc 7) (10) (fun _ => none)) := by rw [eM2]; exact mu_self _ _ _
  refine lv_dup_x1 hx hb dJx4a65c_grow_92f84_55 rfl rfl ?_
  refine m_put (ref := "java/util/ArrayList") (C := RJx4a65c) (T := TJx4a65c) (N := 3) (ci := 0) X Y htJx4a65c_grow_92f84_wsJx4a65c01 tyJx4a65c tyJx4a65c_ok nmJx4a65c hh3 rfl 1 (by decide) kwJx4a65c_grow_92f84_1 rfl rfl (v := .ref q1) rfl rfl (Nat.le_of_ble_eq_true rfl) dJx4a65c_grow_92f84_56 (fun H locs Y => ?_)
  obtain ⟨M5, eM5⟩ : ∃ zz9 : Mp, zz9 = mu M2 L (.inr (0, [.int mo, .ref q1, .int (nI 0)])) := ⟨_, rfl⟩
  have Y : mY D A M5 s H locs := by rw [eM5]; exact Y
  have hh6 : M5 q1 = some (qrow (kc 7) (10) (fun _ => none)) := by rw [eM5, mu_ne _ _ (Ne.symm (ne_fresh hm fq1))]; exact hh4
  have hh7 : M5 L = some (.inr (0, [.int mo, .ref q1, .int (nI 0)])) := by rw [eM5]; exact mu_self _ _ _
  refine m_aret X Y hr (Or.inr ⟨_, rfl⟩) hlocks (by decide) (by decide) (some q1) ?_ dJx4a65c_grow_92f84_59
  refine ⟨q1, rfl, fq1, (ne_fresh hm fq1).symm, ?_⟩
  rw [eM5, eM2]
set_option maxHeartbeats 4000000 in
set_option maxRecDepth 100000 in
theorem c_growC (l : Launch) (D : va_G) (kc : Nat → ClassId) (A : Nat → Prop) (e0 : Nat × Nat) (M : Mp) (ci N : Nat) (C : String) (T : u_T) (hci : vwCl[ci]? = some (C, T, N)) (hca : (C, "java/lang/Object") ∈ cxC) (L ar z : Nat) (mo : Int32) (f : Nat → Option Nat) (hm : M L = some (.inr (0, [.int mo, .ref ar, .int (nI z)]))) (ha : M ar = some (qrow (kc 7) z f)) (h1 : 10 ≤ z) (h2 : z ≤ 133) (hel : ∀ j, j < z → ∃ y vs, f j = some y ∧ M y = some (.inr (ci, vs))) : Met l yJx4a65c_grow_92f84 wsJx4a65c_grow_92f84 ({ frames := 3, cells := 1, slots := 200, locals := 150 }) (mPre D kc A e0 M [.ref L, .int (nI (z + 1))]) (va_Qq (fun r M1 => ∃ q, r = some q ∧ M q = none ∧ q ≠ L ∧ M1 = mu (mu M q (qrow (kc 7) (z + z / 2) (va_cpy f (fun _ => none) 0 0 z))) L (.inr (0, [.int mo, .ref q, .int (nI z)]))) (mB D A) A) 1 200 A := by
  refine Met.ofW (cc := cJx4a65c_grow_92f84) (maxL := 4) (ret := (some (.array (.object "java/lang/Object")))) (by decide) rfl ?_
  intro p e s m args below meth c s₁ B hml hv
  obtain ⟨rfl, hw, hK, hA, hcx⟩ := hv
  have X : mX p s m _ c cJx4a65c_grow_92f84 4 RJx4a65c wsJx4a65c_grow_92f84 D kc := ⟨⟨B.exec, B.bytes, hml, findClass_of_methodNamed B.named, atoms_spec (ws := wsJx4a65c_grow_92f84) B.pre⟩, hK⟩
  have hx := B.exec
  have hb := B.bytes
  have hr := B.returns
  have hlocks := B.notSynchronized
  have Y : mY D A M s s.heap [] := ⟨hw, va_S.rf⟩
  have hl := lv_entry ([.ref L, .int (nI (z + 1))]) (n := 4) (Nat.le_of_ble_eq_true rfl)
  rw [lg_entry_eq]
  generalize (lg_sl ([.ref L, .int (nI (z + 1))]) ++ List.replicate (4 - (lg_sl ([.ref L, .int (nI (z + 1))])).length) Slot.unset).toArray = ls at hl ⊢
  have hl : lv_has ls 4 [(0, .ref L), (1, .int (nI (z + 1)))] := hl
  refine lv_aload_n hx hb dJx4a65c_grow_92f84_0 rfl (lv_at hl 0 rfl) ?_
  refine m_get (ref := "java/util/ArrayList") (C := RJx4a65c) (T := TJx4a65c) (N := 3) (ci := 0) X Y htJx4a65c_grow_92f84_wsJx4a65c01 hm rfl 1 (by decide) kwJx4a65c_grow_92f84_1 rfl (v := .ref ar) rfl dJx4a65c_grow_92f84_1 ?_
  refine m_alen X Y ha dJx4a65c_grow_92f84_4 ?_
  refine lv_istore_n (lv' := [(2, .int (nI z)), (0, .ref L), (1, .int (nI (z + 1)))]) hx hb dJx4a65c_grow_92f84_5 rfl hl (by decide) rfl (fun ls hl => ?_)
  refine lv_iload_n hx hb dJx4a65c_grow_92f84_6 rfl (lv_at hl 0 rfl) ?_
  refine lv_if_gt (tgt := 20) hx hb dJx4a65c_grow_92f84_7 (by decide) (fun _ => ?_) (fun zq => absurd (nI_0lt (by omega) (by omega)) zq)
  refine lv_iload_n hx hb dJx4a65c_grow_92f84_20 rfl (lv_at hl 0 rfl) ?_
  refine lv_iload_n hx hb dJx4a65c_grow_92f84_21 rfl (lv_at hl 2 rfl) ?_
  refine lv_iload_n hx hb dJx4a65c_grow_92f84_22 rfl (lv_at hl 0 rfl) ?_
  refine lv_isub hx hb dJx4a65c_grow_92f84_23 ?_
  refine n_top (y := nI 1) (by rw [pk_sub (by omega)]; congr 1; omega) ?_
  refine lv_iload_n hx hb dJx4a65c_grow_92f84_24 rfl (lv_at hl 0 rfl) ?_
  refine n_iconst hx hb 1 dJx4a65c_grow_92f84_25 (by decide) ?_
  refine lv_ishr hx hb dJx4a65c_grow_92f84_26 ?_
  refine n_top (y := nI (z / 2)) (n_shr1 (by omega)) ?_
  refine m_rSi (As := [.int (nI z), .int (nI 1), .int (nI (z / 2))]) (rest := []) X Y hA hcx (c_newLength l D kc A e0 M z (by omega) (by omega)) (va_cwS 3 X.1.2.2.2.2 gJx4a65c_grow_92f84_J8_newLength_cabcc rfl rfl rfl (by decide +kernel) ⟨Nat.le_of_ble_eq_true rfl, Nat.le_of_ble_eq_true rfl⟩) rfl rfl hl.1 (Nat.le_of_ble_eq_true rfl) dJx4a65c_grow_92f84_27 ⟨by decide, by decide⟩ (fun H locs Y => ?_)
  refine lv_istore_n (lv' := [(3, .int (nI (z + z / 2))), (2, .int (nI z)), (0, .ref L), (1, .int (nI (z + 1)))]) hx hb dJx4a65c_grow_92f84_30 rfl hl (by decide) rfl (fun ls hl => ?_)
  refine lv_aload_n hx hb dJx4a65c_grow_92f84_31 rfl (lv_at hl 2 rfl) ?_
  refine lv_aload_n hx hb dJx4a65c_grow_92f84_32 rfl (lv_at hl 2 rfl) ?_
  refine m_get (ref := "java/util/ArrayList") (C := RJx4a65c) (T := TJx4a65c) (N := 3) (ci := 0) X Y htJx4a65c_grow_92f84_wsJx4a65c01 hm rfl 1 (by decide) kwJx4a65c_grow_92f84_1 rfl (v := .ref ar) rfl dJx4a65c_grow_92f84_33 ?_
  refine lv_iload_n hx hb dJx4a65c_grow_92f84_36 rfl (lv_at hl 0 rfl) ?_
  refine m_Sq (As := [.ref ar, .int (nI (z + z / 2))]) (rest := [.ref L]) X Y hA hcx (c_copyOf l D kc A e0 M ci N C T hci hca ar z (z + z / 2) f ha (by omega) (by omega) hel) (va_cwS 2 X.1.2.2.2.2 gJx4a65c_grow_92f84_J7_copyOf_1904c rfl rfl rfl (by decide +kernel) ⟨Nat.le_of_ble_eq_true rfl, Nat.le_of_ble_eq_true rfl⟩) rfl rfl hl.1 (Nat.le_of_ble_eq_true rfl) dJx4a65c_grow_92f84_37 ⟨by decide, by decide⟩ (fun r1 M2 H locs p3 Y => ?_)
  obtain ⟨q, rfl, hq1, hq2⟩ := p3
  have hm9 : M2 L = some (.inr (0, [.int mo, .ref ar, .int (nI z)])) := by rw [hq2, mu_ne _ _ (ne_fresh hm hq1)]; exact hm
  refine lv_dup_x1 hx hb dJx4a65c_grow_92f84_40 rfl rfl ?_
  refine m_put (ref := "java/util/ArrayList") (C := RJx4a65c) (T := TJx4a65c) (N := 3) (ci := 0) X Y htJx4a65c_grow_92f84_wsJx4a65c01 tyJx4a65c tyJx4a65c_ok nmJx4a65c hm9 rfl 1 (by decide) kwJx4a65c_grow_92f84_1 rfl rfl (v := .ref q) rfl rfl (Nat.le_of_ble_eq_true rfl) dJx4a65c_grow_92f84_41 (fun H locs Y => ?_)
  obtain ⟨M4, eM4⟩ : ∃ zz9 : Mp, zz9 = mu M2 L (.inr (0, [.int mo, .ref q, .int (nI z)])) := ⟨_, rfl⟩
  have Y : mY D A M4 s H locs := by rw [eM4]; exact Y
  have hh5 : M4 L = some (.inr (0, [.int mo, .ref q, .int (nI z)])) := by rw [eM4]; exact mu_self _ _ _
  refine m_aret X Y hr (Or.inr ⟨_, rfl⟩) hlocks (by decide) (by decide) (some q) ?_ dJx4a65c_grow_92f84_44
  refine ⟨q, rfl, hq1, (ne_fresh hm hq1).symm, ?_⟩
  rw [eM4, hq2]
theorem kwJx4a65c_grow_d5877_1 : Cond.fieldLink RJx4a65c 48 "java/util/ArrayList" "size" "I" ∈ wsJx4a65c_grow_d5877 := List.mem_of_getElem? (i := 1) rfl
theorem htJx4a65c_grow_d5877_wsJx4a65c01 : ∀ w ∈ wsJx4a65c0, w ∈ wsJx4a65c_grow_d5877 := fun _ h => List.mem_cons_of_mem _ (List.mem_append_right _ h)
set_option maxHeartbeats 4000000 in
set_option maxRecDepth 100000 in
theorem c_grow0B (l : Launch) (D : va_G) (kc : Nat → ClassId) (A : Nat → Prop) (e0 : Nat × Nat) (M : Mp) (L : Nat) (mo : Int32) (hm : M L = some (.inr (0, [.int mo, .ref e0.1, .int (nI 0)]))) : Met l yJx4a65c_grow_d5877 wsJx4a65c_grow_d5877 ({ frames := 4, cells := 1, slots := 200, locals := 180 }) (mPre D kc A e0 M [.ref L]) (va_Qq (fun r M1 => ∃ q, r = some q ∧ M q = none ∧ q ≠ L ∧ M1 = mu (mu M q (qrow (kc 7) 10 (fun _ => none))) L (.inr (0, [.int mo, .ref q, .int (nI 0)]))) (mB D A) A) 1 200 A := by
  refine Met.ofW (cc := cJx4a65c_grow_d5877) (maxL := 1) (ret := (some (.array (.object "java/lang/Object")))) (by decide) rfl ?_
  intro p e s m args below meth c s₁ B hml hv
  obtain ⟨rfl, hw, hK, hA, hcx⟩ := hv
  have X : mX p s m _ c cJx4a65c_grow_d5877 1 RJx4a65c wsJx4a65c_grow_d5877 D kc := ⟨⟨B.exec, B.bytes, hml, findClass_of_methodNamed B.named, atoms_spec (ws := wsJx4a65c_grow_d5877) B.pre⟩, hK⟩
  have hx := B.exec
  have hb := B.bytes
  have hr := B.returns
  have hlocks := B.notSynchronized
  have Y : mY D A M s s.heap [] := ⟨hw, va_S.rf⟩
  have hl := lv_entry ([.ref L]) (n := 1) (Nat.le_of_ble_eq_true rfl)
  rw [lg_entry_eq]
  generalize (lg_sl ([.ref L]) ++ List.replicate (1 - (lg_sl ([.ref L])).length) Slot.unset).toArray = ls at hl ⊢
  have hl : lv_has ls 1 [(0, .ref L)] := hl
  refine lv_aload_n hx hb dJx4a65c_grow_d5877_0 rfl (lv_at hl 0 rfl) ?_
  refine lv_aload_n hx hb dJx4a65c_grow_d5877_1 rfl (lv_at hl 0 rfl) ?_
  refine m_get (ref := "java/util/ArrayList") (C := RJx4a65c) (T := TJx4a65c) (N := 3) (ci := 0) X Y htJx4a65c_grow_d5877_wsJx4a65c01 hm rfl 2 (by decide) kwJx4a65c_grow_d5877_1 rfl (v := .int (nI 0)) rfl dJx4a65c_grow_d5877_2 ?_
  refine n_iconst hx hb 1 dJx4a65c_grow_d5877_5 (by decide) ?_
  refine n_iadd hx hb dJx4a65c_grow_d5877_6 ?_
  refine m_Vq (As := [.int (nI (0 + 1))]) (rest := []) X Y hA hcx (c_growB l D kc A e0 M L mo hm) (cwV 1 X.1.2.2.2.2 gJx4a65c_grow_d5877_Jx4a65c_grow_92f84 rfl rfl rfl (by decide +kernel) ⟨Nat.le_of_ble_eq_true rfl, Nat.le_of_ble_eq_true rfl⟩) hm rfl rfl rfl hl.1 (Nat.le_of_ble_eq_true rfl) dJx4a65c_grow_d5877_7 ⟨by decide, by decide⟩ (fun r1 M2 H locs p3 Y => ?_)
  obtain ⟨q, rfl, hq1, hqL, hq2⟩ := p3
  refine m_aret X Y hr (Or.inr ⟨_, rfl⟩) hlocks (by decide) (by decide) (some q) ?_ dJx4a65c_grow_d5877_10
  exact ⟨q, rfl, hq1, hqL, hq2⟩
set_option maxHeartbeats 4000000 in
set_option maxRecDepth 100000 in
theorem c_grow0C (l : Launch) (D : va_G) (kc : Nat → ClassId) (A : Nat → Prop) (e0 : Nat × Nat) (M : Mp) (ci N : Nat) (C : String) (T : u_T) (hci : vwCl[ci]? = some (C, T, N)) (hca : (C, "java/lang/Object") ∈ cxC) (L ar z : Nat) (mo : Int32) (f : Nat → Option Nat) (hm : M L = some (.inr (0, [.int mo, .ref ar, .int (nI z)]))) (ha : M ar = some (qrow (kc 7) z f)) (h1 : 10 ≤ z) (h2 : z ≤ 133) (hel : ∀ j, j < z → ∃ y vs, f j = some y ∧ M y = some (.inr (ci, vs))) : Met l yJx4a65c_grow_d5877 wsJx4a65c_grow_d5877 ({ frames := 4, cells := 1, slots := 200, locals := 180 }) (mPre D kc A e0 M [.ref L]) (va_Qq (fun r M1 => ∃ q, r = some q ∧ M q = none ∧ q ≠ L ∧ M1 = mu (mu M q (qrow (kc 7) (z + z / 2) (va_cpy f (fun _ => none) 0 0 z))) L (.inr (0, [.int mo, .ref q, .int (nI z)]))) (mB D A) A) 1 200 A := by
  refine Met.ofW (cc := cJx4a65c_grow_d5877) (maxL := 1) (ret := (some (.array (.object "java/lang/Object")))) (by decide) rfl ?_
  intro p e s m args below meth c s₁ B hml hv
  obtain ⟨rfl, hw, hK, hA, hcx⟩ := hv
  have X : mX p s m _ c cJx4a65c_grow_d5877 1 RJx4a65c wsJx4a65c_grow_d5877 D kc := ⟨⟨B.exec, B.bytes, hml, findClass_of_methodNamed B.named, atoms_spec (ws := wsJx4a65c_grow_d5877) B.pre⟩, hK⟩
  have hx := B.exec
  have hb := B.bytes
  have hr := B.returns
  have hlocks := B.notSynchronized
  have Y : mY D A M s s.heap [] := ⟨hw, va_S.rf⟩
  have hl := lv_entry ([.ref L]) (n := 1) (Nat.le_of_ble_eq_true rfl)
  rw [lg_entry_eq]
  generalize (lg_sl ([.ref L]) ++ List.replicate (1 - (lg_sl ([.ref L])).length) Slot.unset).toArray = ls at hl ⊢
  have hl : lv_has ls 1 [(0, .ref L)] := hl
  refine lv_aload_n hx hb dJx4a65c_grow_d5877_0 rfl (lv_at hl 0 rfl) ?_
  refine lv_aload_n hx hb dJx4a65c_grow_d5877_1 rfl (lv_at hl 0 rfl) ?_
  refine m_get (ref := "java/util/ArrayList") (C := RJx4a65c) (T := TJx4a65c) (N := 3) (ci := 0) X Y htJx4a65c_grow_d5877_wsJx4a65c01 hm rfl 2 (by decide) kwJx4a65c_grow_d5877_1 rfl (v := .int (nI z)) rfl dJx4a65c_grow_d5877_2 ?_
  refine n_iconst hx hb 1 dJx4a65c_grow_d5877_5 (by decide) ?_
  refine n_iadd hx hb dJx4a65c_grow_d5877_6 ?_
  refine m_Vq (As := [.int (nI (z + 1))]) (rest := []) X Y hA hcx (c_growC l D kc A e0 M ci N C T hci hca L ar z mo f hm ha h1 h2 hel) (cwV 1 X.1.2.2.2.2 gJx4a65c_grow_d5877_Jx4a65c_grow_92f84 rfl rfl rfl (by decide +kernel) ⟨Nat.le_of_ble_eq_true rfl, Nat.le_of_ble_eq_true rfl⟩) hm rfl rfl rfl hl.1 (Nat.le_of_ble_eq_true rfl) dJx4a65c_grow_d5877_7 ⟨by decide, by decide⟩ (fun r1 M2 H locs p3 Y => ?_)
  obtain ⟨q, rfl, hq1, hqL, hq2⟩ := p3
  refine m_aret X Y hr (Or.inr ⟨_, rfl⟩) hlocks (by decide) (by decide) (some q) ?_ dJx4a65c_grow_d5877_10
  exact ⟨q, rfl, hq1, hqL, hq2⟩
theorem kwJx4a65c_add_72be8_1 : Cond.fieldLink RJx4a65c 48 "java/util/ArrayList" "size" "I" ∈ wsJx4a65c_add_72be8 := List.mem_of_getElem? (i := 1) rfl
theorem htJx4a65c_add_72be8_wsJx4a65c01 : ∀ w ∈ wsJx4a65c0, w ∈ wsJx4a65c_add_72be8 := fun _ h => List.mem_cons_of_mem _ (List.mem_append_right _ h)
set_option maxHeartbeats 4000000 in
set_option maxRecDepth 100000 in
theorem c_add3A (l : Launch) (D : va_G) (kc : Nat → ClassId) (A : Nat → Prop) (e0 : Nat × Nat) (M : Mp) (ci N : Nat) (C : String) (T : u_T) (hci : vwCl[ci]? = some (C, T, N)) (hca : (C, "java/lang/Object") ∈ cxC) (L ar ct z x : Nat) (vs : List Value) (mo : Int32) (f : Nat → Option Nat) (hm : M L = some (.inr (0, [.int mo, .ref ar, .int (nI ct)]))) (ha : M ar = some (qrow (kc 7) z f)) (hx9 : M x = some (.inr (ci, vs))) (hci0 : ci ≠ 0) (h1 : ct < z) (h2 : z ≤ 200) (h3 : 0 < ct) (h4 : 10 ≤ z) : Met l yJx4a65c_add_72be8 wsJx4a65c_add_72be8 ({ frames := 5, cells := 1, slots := 200, locals := 210 }) (mPre D kc A e0 M [.ref L, .ref x, .ref ar, .int (nI ct)]) (va_Qv (addP kc M L x ct mo ar f) (mB D A) A) 1 200 A := by
  refine Met.ofW (cc := cJx4a65c_add_72be8) (maxL := 4) (ret := none) (by decide) rfl ?_
  intro p e s m args below meth c s₁ B hml hv
  obtain ⟨rfl, hw, hK, hA, hcx⟩ := hv
  have X : mX p s m _ c cJx4a65c_add_72be8 4 RJx4a65c wsJx4a65c_add_72be8 D kc := ⟨⟨B.exec, B.bytes, hml, findClass_of_methodNamed B.named, atoms_spec (ws := wsJx4a65c_add_72be8) B.pre⟩, hK⟩
  have hx := B.exec
  have hb := B.bytes
  have hr := B.returns
  have hlocks := B.notSynchronized
  have Y : mY D A M s s.heap [] := ⟨hw, va_S.rf⟩
  have hl := lv_entry ([.ref L, .ref x, .ref ar, .int (nI ct)]) (n := 4) (Nat.le_of_ble_eq_true rfl)
  rw [lg_entry_eq]
  generalize (lg_sl ([.ref L, .ref x, .ref ar, .int (nI ct)]) ++ List.replicate (4 - (lg_sl ([.ref L, .ref x, .ref ar, .int (nI ct)])).length) Slot.unset).toArray = ls at hl ⊢
  have hl : lv_has ls 4 [(0, .ref L), (1, .ref x), (2, .ref ar), (3, .int (nI ct))] := hl
  refine lv_iload_n hx hb dJx4a65c_add_72be8_0 rfl (lv_at hl 3 rfl) ?_
  refine lv_aload_n hx hb dJx4a65c_add_72be8_1 rfl (lv_at hl 2 rfl) ?_
  refine m_alen X Y ha dJx4a65c_add_72be8_2 ?_
  refine n_icmp_ne hx hb 11 (by omega) (by omega) dJx4a65c_add_72be8_3 (by decide) (fun _ => ?_) (fun zq => absurd zq (by omega))
  refine lv_aload_n hx hb dJx4a65c_add_72be8_11 rfl (lv_at hl 2 rfl) ?_
  refine lv_iload_n hx hb dJx4a65c_add_72be8_12 rfl (lv_at hl 3 rfl) ?_
  refine lv_aload_n hx hb dJx4a65c_add_72be8_13 rfl (lv_at hl 1 rfl) ?_
  refine m_aastO X Y (r := (C, T, N)) (hcx.1.2.1 _ hca) ha hx9 hci (vp_in_nI (by omega) (by omega)) dJx4a65c_add_72be8_14 (fun H locs Y => ?_)
  rw [nI_cl (by omega)] at Y
  obtain ⟨M1, eM1⟩ : ∃ zz9 : Mp, zz9 = mu M ar (qrow (kc 7) z (va_up f ct (some x))) := ⟨_, rfl⟩
  have Y : mY D A M1 s H locs := by rw [eM1]; exact Y
  have hh2 : M1 L = some (.inr (0, [.int mo, .ref ar, .int (nI ct)])) := by rw [eM1, mu_ne _ _ (ne_cell hm ha (fun zq => nomatch zq))]; exact hm
  have hh3 : M1 x = some (.inr (ci, vs)) := by rw [eM1, mu_ne _ _ (ne_cell hx9 ha (fun zq => nomatch zq))]; exact hx9
  have hh4 : M1 ar = some (qrow (kc 7) z (va_up f ct (some x))) := by rw [eM1]; exact mu_self _ _ _
  refine lv_aload_n hx hb dJx4a65c_add_72be8_15 rfl (lv_at hl 0 rfl) ?_
  refine lv_iload_n hx hb dJx4a65c_add_72be8_16 rfl (lv_at hl 3 rfl) ?_
  refine n_iconst hx hb 1 dJx4a65c_add_72be8_17 (by decide) ?_
  refine n_iadd hx hb dJx4a65c_add_72be8_18 ?_
  refine m_put (ref := "java/util/ArrayList") (C := RJx4a65c) (T := TJx4a65c) (N := 3) (ci := 0) X Y htJx4a65c_add_72be8_wsJx4a65c01 tyJx4a65c tyJx4a65c_ok nmJx4a65c hh2 rfl 2 (by decide) kwJx4a65c_add_72be8_1 rfl rfl (v := .int (nI (ct + 1))) rfl rfl (Nat.le_of_ble_eq_true rfl) dJx4a65c_add_72be8_19 (fun H locs Y => ?_)
  obtain ⟨M5, eM5⟩ : ∃ zz9 : Mp, zz9 = mu M1 L (.inr (0, [.int mo, .ref ar, .int (nI (ct + 1))])) := ⟨_, rfl⟩
  have Y : mY D A M5 s H locs := by rw [eM5]; exact Y
  have hh6 : M5 x = some (.inr (ci, vs)) := by rw [eM5, mu_ne _ _ (ne_cell hx9 hm (fun zq => hci0 (by cases zq; rfl)))]; exact hh3
  have hh7 : M5 ar = some (qrow (kc 7) z (va_up f ct (some x))) := by rw [eM5, mu_ne _ _ (Ne.symm (ne_cell hm ha (fun zq => nomatch zq)))]; exact hh4
  have hh8 : M5 L = some (.inr (0, [.int mo, .ref ar, .int (nI (ct + 1))])) := by rw [eM5]; exact mu_self _ _ _
  refine m_vret X Y hr hlocks (by decide) (by decide) ?_ dJx4a65c_add_72be8_22
  refine ⟨ar, z, va_up f ct (some x), ?_, fun j hj => va_up_ne _ _ (by omega), va_up_self _ _ _, by omega, h4, h2, (ne_cell hm ha (fun zq => nomatch zq)).symm, Or.inr ⟨h3, rfl⟩⟩
  rw [eM5, eM1]
set_option maxHeartbeats 4000000 in
set_option maxRecDepth 100000 in
theorem c_add3B (l : Launch) (D : va_G) (kc : Nat → ClassId) (A : Nat → Prop) (e0 : Nat × Nat) (M : Mp) (ci N : Nat) (C : String) (T : u_T) (hci : vwCl[ci]? = some (C, T, N)) (hca : (C, "java/lang/Object") ∈ cxC) (L x : Nat) (vs : List Value) (mo : Int32) (f : Nat → Option Nat) (hm : M L = some (.inr (0, [.int mo, .ref e0.1, .int (nI 0)]))) (hx9 : M x = some (.inr (ci, vs))) (hci0 : ci ≠ 0) : Met l yJx4a65c_add_72be8 wsJx4a65c_add_72be8 ({ frames := 5, cells := 1, slots := 200, locals := 210 }) (mPre D kc A e0 M [.ref L, .ref x, .ref e0.1, .int (nI 0)]) (va_Qv (addP kc M L x 0 mo e0.1 f) (mB D A) A) 1 200 A := by
  refine Met.ofW (cc := cJx4a65c_add_72be8) (maxL := 4) (ret := none) (by decide) rfl ?_
  intro p e s m args below meth c s₁ B hml hv
  obtain ⟨rfl, hw, hK, hA, hcx⟩ := hv
  have X : mX p s m _ c cJx4a65c_add_72be8 4 RJx4a65c wsJx4a65c_add_72be8 D kc := ⟨⟨B.exec, B.bytes, hml, findClass_of_methodNamed B.named, atoms_spec (ws := wsJx4a65c_add_72be8) B.pre⟩, hK⟩
  have hx := B.exec
  have hb := B.bytes
  have hr := B.returns
  have hlocks := B.notSynchronized
  have Y : mY D A M s s.heap [] := ⟨hw, va_S.rf⟩
  have hl := lv_entry ([.ref L, .ref x, .ref e0.1, .int (nI 0)]) (n := 4) (Nat.le_of_ble_eq_true rfl)
  rw [lg_entry_eq]
  generalize (lg_sl ([.ref L, .ref x, .ref e0.1, .int (nI 0)]) ++ List.replicate (4 - (lg_sl ([.ref L, .ref x, .ref e0.1, .int (nI 0)])).length) Slot.unset).toArray = ls at hl ⊢
  have hl : lv_has ls 4 [(0, .ref L), (1, .ref x), (2, .ref e0.1), (3, .int (nI 0))] := hl
  refine lv_iload_n hx hb dJx4a65c_add_72be8_0 rfl (lv_at hl 3 rfl) ?_
  refine lv_aload_n hx hb dJx4a65c_add_72be8_1 rfl (lv_at hl 2 rfl) ?_
  refine m_alenT X Y hcx dJx4a65c_add_72be8_2 ?_
  refine n_icmp_ne hx hb 11 (by omega) (by omega) dJx4a65c_add_72be8_3 (by decide) (fun zq => absurd zq (fun q => q rfl)) (fun _ => ?_)
  refine lv_aload_n hx hb dJx4a65c_add_72be8_6 rfl (lv_at hl 0 rfl) ?_
  refine m_Vq (As := []) (rest := []) X Y hA hcx (c_grow0B l D kc A e0 M L mo hm) (cwV 0 X.1.2.2.2.2 gJx4a65c_add_72be8_Jx4a65c_grow_d5877 rfl rfl rfl (by decide +kernel) ⟨Nat.le_of_ble_eq_true rfl, Nat.le_of_ble_eq_true rfl⟩) hm rfl rfl rfl hl.1 (Nat.le_of_ble_eq_true rfl) dJx4a65c_add_72be8_7 ⟨by decide, by decide⟩ (fun r1 M2 H locs p3 Y => ?_)
  obtain ⟨q, rfl, hq1, hqL, hq2⟩ := p3
  have hm9 : M2 L = some (.inr (0, [.int mo, .ref q, .int (nI 0)])) := by rw [hq2]; exact mu_self _ _ _
  have hq9 : M2 q = some (qrow (kc 7) (10) (fun _ => none)) := by rw [hq2, mu_ne _ _ hqL]; exact mu_self _ _ _
  have hx8 : M2 x = some (.inr (ci, vs)) := by rw [hq2, mu_ne _ _ (ne_cell hx9 hm (fun zq => hci0 (by cases zq; rfl))), mu_ne _ _ (ne_fresh hx9 hq1)]; exact hx9
  refine lv_astore_n (lv' := [(2, .ref q), (0, .ref L), (1, .ref x), (3, .int (nI 0))]) hx hb dJx4a65c_add_72be8_10 rfl hl (by decide) rfl (fun ls hl => ?_)
  refine lv_aload_n hx hb dJx4a65c_add_72be8_11 rfl (lv_at hl 0 rfl) ?_
  refine lv_iload_n hx hb dJx4a65c_add_72be8_12 rfl (lv_at hl 3 rfl) ?_
  refine lv_aload_n hx hb dJx4a65c_add_72be8_13 rfl (lv_at hl 2 rfl) ?_
  refine m_aastO X Y (r := (C, T, N)) (hcx.1.2.1 _ hca) hq9 hx8 hci (vp_in_nI (by omega) (by omega)) dJx4a65c_add_72be8_14 (fun H locs Y => ?_)
  rw [nI_cl (by omega)] at Y
  obtain ⟨M4, eM4⟩ : ∃ zz9 : Mp, zz9 = mu M2 q (qrow (kc 7) (10) (va_up (fun _ => none) 0 (some x))) := ⟨_, rfl⟩
  have Y : mY D A M4 s H locs := by rw [eM4]; exact Y
  have hh5 : M4 L = some (.inr (0, [.int mo, .ref q, .int (nI 0)])) := by rw [eM4, mu_ne _ _ (Ne.symm hqL)]; exact hm9
  have hh6 : M4 x = some (.inr (ci, vs)) := by rw [eM4, mu_ne _ _ (ne_fresh hx9 hq1)]; exact hx8
  have hh7 : M4 q = some (qrow (kc 7) (10) (va_up (fun _ => none) 0 (some x))) := by rw [eM4]; exact mu_self _ _ _
  refine lv_aload_n hx hb dJx4a65c_add_72be8_15 rfl (lv_at hl 1 rfl) ?_
  refine lv_iload_n hx hb dJx4a65c_add_72be8_16 rfl (lv_at hl 3 rfl) ?_
  refine n_iconst hx hb 1 dJx4a65c_add_72be8_17 (by decide) ?_
  refine n_iadd hx hb dJx4a65c_add_72be8_18 ?_
  refine m_put (ref := "java/util/ArrayList") (C := RJx4a65c) (T := TJx4a65c) (N := 3) (ci := 0) X Y htJx4a65c_add_72be8_wsJx4a65c01 tyJx4a65c tyJx4a65c_ok nmJx4a65c hh5 rfl 2 (by decide) kwJx4a65c_add_72be8_1 rfl rfl (v := .int (nI (0 + 1))) rfl rfl (Nat.le_of_ble_eq_true rfl) dJx4a65c_add_72be8_19 (fun H locs Y => ?_)
  obtain ⟨M8, eM8⟩ : ∃ zz9 : Mp, zz9 = mu M4 L (.inr (0, [.int mo, .ref q, .int (nI (0 + 1))])) := ⟨_, rfl⟩
  have Y : mY D A M8 s H locs := by rw [eM8]; exact Y
  have hh9 : M8 x = some (.inr (ci, vs)) := by rw [eM8, mu_ne _ _ (ne_cell hx9 hm (fun zq => hci0 (by cases zq; rfl)))]; exact hh6
  have hh10 : M8 q = some (qrow (kc 7) (10) (va_up (fun _ => none) 0 (some x))) := by rw [eM8, mu_ne _ _ (Ne.symm (Ne.symm hqL))]; exact hh7
  have hh11 : M8 L = some (.inr (0, [.int mo, .ref q, .int (nI (0 + 1))])) := by rw [eM8]; exact mu_self _ _ _
  refine m_vret X Y hr hlocks (by decide) (by decide) ?_ dJx4a65c_add_72be8_22
  refine ⟨q, 10, va_up (fun _ => none) 0 (some x), ?_, fun j hj => absurd hj (Nat.not_lt_zero j), va_up_self _ _ _, by omega, by omega, by omega, hqL, Or.inl hq1⟩
  rw [eM8, eM4, hq2, mu_lal (Ne.symm hqL), mu_mu]
set_option maxHeartbeats 4000000 in
set_option maxRecDepth 100000 in
theorem c_add3C (l : Launch) (D : va_G) (kc : Nat → ClassId) (A : Nat → Prop) (e0 : Nat × Nat) (M : Mp) (ci N : Nat) (C : String) (T : u_T) (hci : vwCl[ci]? = some (C, T, N)) (hca : (C, "java/lang/Object") ∈ cxC) (L ar z x : Nat) (vs : List Value) (mo : Int32) (f : Nat → Option Nat) (hm : M L = some (.inr (0, [.int mo, .ref ar, .int (nI z)]))) (ha : M ar = some (qrow (kc 7) z f)) (hx9 : M x = some (.inr (ci, vs))) (hci0 : ci ≠ 0) (h1 : 10 ≤ z) (h2 : z ≤ 133) (hel : ∀ j, j < z → ∃ y vs, f j = some y ∧ M y = some (.inr (ci, vs))) : Met l yJx4a65c_add_72be8 wsJx4a65c_add_72be8 ({ frames := 5, cells := 1, slots := 200, locals := 210 }) (mPre D kc A e0 M [.ref L, .ref x, .ref ar, .int (nI z)]) (va_Qv (addP kc M L x z mo ar f) (mB D A) A) 1 200 A := by
  refine Met.ofW (cc := cJx4a65c_add_72be8) (maxL := 4) (ret := none) (by decide) rfl ?_
  intro p e s m args below meth c s₁ B hml hv
  obtain ⟨rfl, hw, hK, hA, hcx⟩ := hv
  have X : mX p s m _ c cJx4a65c_add_72be8 4 RJx4a65c wsJx4a65c_add_72be8 D kc := ⟨⟨B.exec, B.bytes, hml, findClass_of_methodNamed B.named, atoms_spec (ws := wsJx4a65c_add_72be8) B.pre⟩, hK⟩
  have hx := B.exec
  have hb := B.bytes
  have hr := B.returns
  have hlocks := B.notSynchronized
  have Y : mY D A M s s.heap [] := ⟨hw, va_S.rf⟩
  have hl := lv_entry ([.ref L, .ref x, .ref ar, .int (nI z)]) (n := 4) (Nat.le_of_ble_eq_true rfl)
  rw [lg_entry_eq]
  generalize (lg_sl ([.ref L, .ref x, .ref ar, .int (nI z)]) ++ List.replicate (4 - (lg_sl ([.ref L, .ref x, .ref ar, .int (nI z)])).length) Slot.unset).toArray = ls at hl ⊢
  have hl : lv_has ls 4 [(0, .ref L), (1, .ref x), (2, .ref ar), (3, .int (nI z))] := hl
  refine lv_iload_n hx hb dJx4a65c_add_72be8_0 rfl (lv_at hl 3 rfl) ?_
  refine lv_aload_n hx hb dJx4a65c_add_72be8_1 rfl (lv_at hl 2 rfl) ?_
  refine m_alen X Y ha dJx4a65c_add_72be8_2 ?_
  refine n_icmp_ne hx hb 11 (by omega) (by omega) dJx4a65c_add_72be8_3 (by decide) (fun zq => absurd zq (fun q => q rfl)) (fun _ => ?_)
  refine lv_aload_n hx hb dJx4a65c_add_72be8_6 rfl (lv_at hl 0 rfl) ?_
  refine m_Vq (As := []) (rest := []) X Y hA hcx (c_grow0C l D kc A e0 M ci N C T hci hca L ar z mo f hm ha h1 h2 hel) (cwV 0 X.1.2.2.2.2 gJx4a65c_add_72be8_Jx4a65c_grow_d5877 rfl rfl rfl (by decide +kernel) ⟨Nat.le_of_ble_eq_true rfl, Nat.le_of_ble_eq_true rfl⟩) hm rfl rfl rfl hl.1 (Nat.le_of_ble_eq_true rfl) dJx4a65c_add_72be8_7 ⟨by decide, by decide⟩ (fun r1 M2 H locs p3 Y => ?_)
  obtain ⟨q, rfl, hq1, hqL, hq2⟩ := p3
  have hm9 : M2 L = some (.inr (0, [.int mo, .ref q, .int (nI z)])) := by rw [hq2]; exact mu_self _ _ _
  have hq9 : M2 q = some (qrow (kc 7) (z + z / 2) (va_cpy f (fun _ => none) 0 0 z)) := by rw [hq2, mu_ne _ _ hqL]; exact mu_self _ _ _
  have hx8 : M2 x = some (.inr (ci, vs)) := by rw [hq2, mu_ne _ _ (ne_cell hx9 hm (fun zq => hci0 (by cases zq; rfl))), mu_ne _ _ (ne_fresh hx9 hq1)]; exact hx9
  refine lv_astore_n (lv' := [(2, .ref q), (0, .ref L), (1, .ref x), (3, .int (nI z))]) hx hb dJx4a65c_add_72be8_10 rfl hl (by decide) rfl (fun ls hl => ?_)
  refine lv_aload_n hx hb dJx4a65c_add_72be8_11 rfl (lv_at hl 0 rfl) ?_
  refine lv_iload_n hx hb dJx4a65c_add_72be8_12 rfl (lv_at hl 3 rfl) ?_
  refine lv_aload_n hx hb dJx4a65c_add_72be8_13 rfl (lv_at hl 2 rfl) ?_
  refine m_aastO X Y (r := (C, T, N)) (hcx.1.2.1 _ hca) hq9 hx8 hci (vp_in_nI (by omega) (by omega)) dJx4a65c_add_72be8_14 (fun H locs Y => ?_)
  rw [nI_cl (by omega)] at Y
  obtain ⟨M4, eM4⟩ : ∃ zz9 : Mp, zz9 = mu M2 q (qrow (kc 7) (z + z / 2) (va_up (va_cpy f (fun _ => none) 0 0 z) z (some x))) := ⟨_, rfl⟩
  have Y : mY D A M4 s H locs := by rw [eM4]; exact Y
  have hh5 : M4 L = some (.inr (0, [.int mo, .ref q, .int (nI z)])) := by rw [eM4, mu_ne _ _ (Ne.symm hqL)]; exact hm9
  have hh6 : M4 x = some (.inr (ci, vs)) := by rw [eM4, mu_ne _ _ (ne_fresh hx9 hq1)]; exact hx8
  have hh7 : M4 q = some (qrow (kc 7) (z + z / 2) (va_up (va_cpy f (fun _ => none) 0 0 z) z (some x))) := by rw [eM4]; exact mu_self _ _ _
  refine lv_aload_n hx hb dJx4a65c_add_72be8_15 rfl (lv_at hl 1 rfl) ?_
  refine lv_iload_n hx hb dJx4a65c_add_72be8_16 rfl (lv_at hl 3 rfl) ?_
  refine n_iconst hx hb 1 dJx4a65c_add_72be8_17 (by decide) ?_
  refine n_iadd hx hb dJx4a65c_add_72be8_18 ?_
  refine m_put (ref := "java/util/ArrayList") (C := RJx4a65c) (T := TJx4a65c) (N := 3) (ci := 0) X Y htJx4a65c_add_72be8_wsJx4a65c01 tyJx4a65c tyJx4a65c_ok nmJx4a65c hh5 rfl 2 (by decide) kwJx4a65c_add_72be8_1 rfl rfl (v := .int (nI (z + 1))) rfl rfl (Nat.le_of_ble_eq_true rfl) dJx4a65c_add_72be8_19 (fun H locs Y => ?_)
  obtain ⟨M8, eM8⟩ : ∃ zz9 : Mp, zz9 = mu M4 L (.inr (0, [.int mo, .ref q, .int (nI (z + 1))])) := ⟨_, rfl⟩
  have Y : mY D A M8 s H locs := by rw [eM8]; exact Y
  have hh9 : M8 x = some (.inr (ci, vs)) := by rw [eM8, mu_ne _ _ (ne_cell hx9 hm (fun zq => hci0 (by cases zq; rfl)))]; exact hh6
  have hh10 : M8 q = some (qrow (kc 7) (z + z / 2) (va_up (va_cpy f (fun _ => none) 0 0 z) z (some x))) := by rw [eM8, mu_ne _ _ (Ne.symm (Ne.symm hqL))]; exact hh7
  have hh11 : M8 L = some (.inr (0, [.int mo, .ref q, .int (nI (z + 1))])) := by rw [eM8]; exact mu_self _ _ _
  refine m_vret X Y hr hlocks (by decide) (by decide) ?_ dJx4a65c_add_72be8_22
  refine ⟨q, z + z / 2, va_up (va_cpy f (fun _ => none) 0 0 z) z (some x), ?_, fun j hj => ?_, va_up_self _ _ _, by omega, by omega, by omega, hqL, Or.inl hq1⟩
  · rw [eM8, eM4, hq2, mu_lal (Ne.symm hqL), mu_mu]
  · rw [va_up_ne _ _ (by omega), pk_cpy_in (by omega) (by omega)]
    congr 1
    omega
def lsOk (kc : Nat → ClassId) (e0 : Nat × Nat) (M : Mp) (ci ar ct z : Nat) (f : Nat → Option Nat) : Prop := (ct = 0 ∧ ar = e0.1) ∨ (0 < ct ∧ M ar = some (qrow (kc 7) z f) ∧ ct ≤ z ∧ 10 ≤ z ∧ z ≤ 200 ∧ (ct = z → z ≤ 133) ∧ ∀ j, j < ct → ∃ y vs, f j = some y ∧ M y = some (.inr (ci, vs)))
theorem c_add3 (l : Launch) (D : va_G) (kc : Nat → ClassId) (A : Nat → Prop) (e0 : Nat × Nat) (M : Mp) (ci N : Nat) (C : String) (T : u_T) (hci : vwCl[ci]? = some (C, T, N)) (hca : (C, "java/lang/Object") ∈ cxC) (L ar ct z x : Nat) (vs : List Value) (mo : Int32) (f : Nat → Option Nat) (hm : M L = some (.inr (0, [.int mo, .ref ar, .int (nI ct)]))) (hx9 : M x = some (.inr (ci, vs))) (hci0 : ci ≠ 0) (hls : lsOk kc e0 M ci ar ct z f) : Met l yJx4a65c_add_72be8 wsJx4a65c_add_72be8 ({ frames := 5, cells := 1, slots := 200, locals := 210 }) (mPre D kc A e0 M [.ref L, .ref x, .ref ar, .int (nI ct)]) (va_Qv (addP kc M L x ct mo ar f) (mB D A) A) 1 200 A := by
  rcases hls with ⟨h1, h2⟩ | ⟨h1, h2, h3, h8, h4, h5, h6⟩
  · subst h1; subst h2
    exact c_add3B l D kc A e0 M ci N C T hci hca L x vs mo f hm hx9 hci0
  · by_cases h7 : ct = z
    · subst h7
      exact c_add3C l D kc A e0 M ci N C T hci hca L ar ct x vs mo f hm h2 hx9 hci0 h8 (h5 rfl) h6
    · exact c_add3A l D kc A e0 M ci N C T hci hca L ar ct z x vs mo f hm h2 hx9 hci0 (by omega) h4 h1 h8
theorem kwJx4a65c_add_9ea2d_1 : Cond.fieldLink RJx4a65c 63 "java/util/ArrayList" "modCount" "I" ∈ wsJx4a65c_add_9ea2d := List.mem_of_getElem? (i := 1) rfl
theorem htJx4a65c_add_9ea2d_wsJx4a65c01 : ∀ w ∈ wsJx4a65c0, w ∈ wsJx4a65c_add_9ea2d := fun _ h => List.mem_cons_of_mem _ (List.mem_append_right _ h)
theorem kwJx4a65c_add_9ea2d_2 : Cond.sameField "java/util/ArrayList" "java/util/AbstractList" "modCount" "I" ∈ wsJx4a65c_add_9ea2d := List.mem_of_getElem? (i := 2) rfl
theorem kwJx4a65c_add_9ea2d_3 : Cond.fieldLink RJx4a65c 9 "java/util/ArrayList" "elementData" "[Ljava/lang/Object;" ∈ wsJx4a65c_add_9ea2d := List.mem_of_getElem? (i := 3) rfl
theorem kwJx4a65c_add_9ea2d_4 : Cond.fieldLink RJx4a65c 48 "java/util/ArrayList" "size" "I" ∈ wsJx4a65c_add_9ea2d := List.mem_of_getElem? (i := 4) rfl
set_option maxHeartbeats 4000000 in
set_option maxRecDepth 100000 in
theorem c_add (l : Launch) (D : va_G) (kc : Nat → ClassId) (A : Nat → Prop) (e0 : Nat × Nat) (M : Mp) (ci N : Nat) (C : String) (T : u_T) (hci : vwCl[ci]? = some (C, T, N)) (hca : (C, "java/lang/Object") ∈ cxC) (L ar ct z x : Nat) (vs : List Value) (mo : Int32) (f : Nat → Option Nat) (hm : M L = some (.inr (0, [.int mo, .ref ar, .int (nI ct)]))) (hx9 : M x = some (.inr (ci, vs))) (hci0 : ci ≠ 0) (hls : lsOk kc e0 M ci ar ct z f) : Met l yJx4a65c_add_9ea2d wsJx4a65c_add_9ea2d ({ frames := 6, cells := 1, slots := 200, locals := 240 }) (mPre D kc A e0 M [.ref L, .ref x]) (va_Qi (fun r M1 => r = nI 1 ∧ addP kc M L x ct (mo + nI 1) ar f M1) (mB D A) A) 1 200 A := by
  refine Met.ofW (cc := cJx4a65c_add_9ea2d) (maxL := 2) (ret := (some .boolean)) (by decide) rfl ?_
  intro p e s m args below meth c s₁ B hml hv
  obtain ⟨rfl, hw, hK, hA, hcx⟩ := hv
  have X : mX p s m _ c cJx4a65c_add_9ea2d 2 RJx4a65c wsJx4a65c_add_9ea2d D kc := ⟨⟨B.exec, B.bytes, hml, findClass_of_methodNamed B.named, atoms_spec (ws := wsJx4a65c_add_9ea2d) B.pre⟩, hK⟩
  have hx := B.exec
  have hb := B.bytes
  have hr := B.returns
  have hlocks := B.notSynchronized
  have Y : mY D A M s s.heap [] := ⟨hw, va_S.rf⟩
  have hl := lv_entry ([.ref L, .ref x]) (n := 2) (Nat.le_of_ble_eq_true rfl)
  rw [lg_entry_eq]
  generalize (lg_sl ([.ref L, .ref x]) ++ List.replicate (2 - (lg_sl ([.ref L, .ref x])).length) Slot.unset).toArray = ls at hl ⊢
  have hl : lv_has ls 2 [(0, .ref L), (1, .ref x)] := hl
  refine lv_aload_n hx hb dJx4a65c_add_9ea2d_0 rfl (lv_at hl 0 rfl) ?_
  refine lv_dup hx hb dJx4a65c_add_9ea2d_1 rfl ?_
  refine m_getS (ref := "java/util/ArrayList") (C := RJx4a65c) (T := TJx4a65c) (N := 3) (ci := 0) X Y htJx4a65c_add_9ea2d_wsJx4a65c01 hm rfl 0 (by decide) kwJx4a65c_add_9ea2d_1 kwJx4a65c_add_9ea2d_2 (v := .int mo) rfl dJx4a65c_add_9ea2d_2 ?_
  refine n_iconst hx hb 1 dJx4a65c_add_9ea2d_5 (by decide) ?_
  refine lv_iadd hx hb dJx4a65c_add_9ea2d_6 ?_
  refine m_putS (ref := "java/util/ArrayList") (C := RJx4a65c) (T := TJx4a65c) (N := 3) (ci := 0) X Y htJx4a65c_add_9ea2d_wsJx4a65c01 tyJx4a65c tyJx4a65c_ok nmJx4a65c hm rfl 0 (by decide) kwJx4a65c_add_9ea2d_1 kwJx4a65c_add_9ea2d_2 rfl (v := .int (mo + (nI 1))) rfl rfl (Nat.le_of_ble_eq_true rfl) dJx4a65c_add_9ea2d_7 (fun H locs Y => ?_)
  obtain ⟨M1, eM1⟩ : ∃ zz9 : Mp, zz9 = mu M L (.inr (0, [.int (mo + (nI 1)), .ref ar, .int (nI ct)])) := ⟨_, rfl⟩
  have Y : mY D A M1 s H locs := by rw [eM1]; exact Y
  have hh2 : M1 x = some (.inr (ci, vs)) := by rw [eM1, mu_ne _ _ (ne_cell hx9 hm (fun zq => hci0 (by cases zq; rfl)))]; exact hx9
  have hh3 : M1 L = some (.inr (0, [.int (mo + (nI 1)), .ref ar, .int (nI ct)])) := by rw [eM1]; exact mu_self _ _ _
  refine lv_aload_n hx hb dJx4a65c_add_9ea2d_10 rfl (lv_at hl 0 rfl) ?_
  refine lv_aload_n hx hb dJx4a65c_add_9ea2d_11 rfl (lv_at hl 1 rfl) ?_
  refine lv_aload_n hx hb dJx4a65c_add_9ea2d_12 rfl (lv_at hl 0 rfl) ?_
  refine m_get (ref := "java/util/ArrayList") (C := RJx4a65c) (T := TJx4a65c) (N := 3) (ci := 0) X Y htJx4a65c_add_9ea2d_wsJx4a65c01 hh3 rfl 1 (by decide) kwJx4a65c_add_9ea2d_3 rfl (v := .ref ar) rfl dJx4a65c_add_9ea2d_13 ?_
  refine lv_aload_n hx hb dJx4a65c_add_9ea2d_16 rfl (lv_at hl 0 rfl) ?_
  refine m_get (ref := "java/util/ArrayList") (C := RJx4a65c) (T := TJx4a65c) (N := 3) (ci := 0) X Y htJx4a65c_add_9ea2d_wsJx4a65c01 hh3 rfl 2 (by decide) kwJx4a65c_add_9ea2d_4 rfl (v := .int (nI ct)) rfl dJx4a65c_add_9ea2d_17 ?_
  have hls2 : lsOk kc e0 M1 ci ar ct z f := by
    rcases hls with h | ⟨g1, g2, g3, g7, g4, g5, g6⟩
    · exact Or.inl h
    · refine Or.inr ⟨g1, by rw [eM1, mu_ne _ _ (ne_cell g2 hm (fun zq => nomatch zq))]; exact g2, g3, g7, g4, g5, fun j hj => ?_⟩
      obtain ⟨y, vs2, k1, k2⟩ := g6 j hj
      exact ⟨y, vs2, k1, by rw [eM1, mu_ne _ _ (ne_cell k2 hm (fun zq => hci0 (by cases zq; rfl)))]; exact k2⟩
  refine m_Vv (As := [.ref x, .ref ar, .int (nI ct)]) (rest := []) X Y hA hcx (c_add3 l D kc A e0 M1 ci N C T hci hca L ar ct z x vs (mo + nI 1) f hh3 hh2 hci0 hls2) (cwV 3 X.1.2.2.2.2 gJx4a65c_add_9ea2d_Jx4a65c_add_72be8 rfl rfl rfl (by decide +kernel) ⟨Nat.le_of_ble_eq_true rfl, Nat.le_of_ble_eq_true rfl⟩) hh3 rfl rfl rfl hl.1 (Nat.le_of_ble_eq_true rfl) dJx4a65c_add_9ea2d_20 ⟨by decide, by decide⟩ (fun M4 H locs p5 Y => ?_)
  refine n_iconst hx hb 1 dJx4a65c_add_9ea2d_23 (by decide) ?_
  refine m_zret X Y hr hlocks (by decide) (by decide) (by rfl) ?_ dJx4a65c_add_9ea2d_24
  obtain ⟨q, w, f2, k1, k2, k3, k4, k8, k5, k6, k7⟩ := p5
  refine ⟨rfl, q, w, f2, ?_, k2, k3, k4, k8, k5, k6, ?_⟩
  · rw [k1, eM1, mu_lal (Ne.symm k6)]
  · rcases k7 with k7 | k7
    · rw [eM1, mu_ne _ _ k6] at k7; exact Or.inl k7
    · exact Or.inr k7
