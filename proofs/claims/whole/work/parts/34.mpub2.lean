theorem kwX8_net_2 : Cond.fieldLink RX8 66 "CardPortModel" "today" "[J" ∈ wsX8_net := List.mem_of_getElem? (i := 2) rfl
theorem htX8_net_wsX801 : ∀ w ∈ wsX80, w ∈ wsX8_net := fun _ h => List.mem_cons_of_mem _ (List.mem_append_right _ h)
theorem kwX8_net_1 : Cond.fieldLink RX8 62 "CardPortModel" "all" "[J" ∈ wsX8_net := List.mem_of_getElem? (i := 1) rfl
set_option maxHeartbeats 4000000 in
set_option maxRecDepth 100000 in
theorem c_X8_net (l : Launch) (D : va_G) (kc : Nat → ClassId) (A : Nat → Prop) (e0 : Nat × Nat) (M : Mp) {pr : Nat → Prop} {σ τ : Sg} {th : Int32} {o : Int64} {g : Gh} {nn : Nat} (hG : G pr kc e0 σ τ th o g M) (hwf : WS nn τ) (hpr : ∀ t, t ≤ 13 → pr t) (a : Int32) (b : Bool) : Met l yX8_net wsX8_net ({ frames := 2, cells := 0, slots := 0, locals := 42 }) (mPre D kc A e0 M [.ref (g.1 11 0), .int a, .int (nI b.toNat)]) (va_Ql (fun r M1 => r = (sp_net τ a b).2 ∧ G pr kc e0 σ τ (nI (sp_net τ a b).1) o g M1) (mB D A) A) 0 0 A := by
  refine Met.ofW (cc := cX8_net) (maxL := 3) (ret := (some .long)) (by decide) rfl ?_
  intro p e s m args below meth c s₁ B hml hv
  obtain ⟨rfl, hw, hK, hA, hcx⟩ := hv
  have X : mX p s m _ c cX8_net 3 RX8 wsX8_net D kc := ⟨⟨B.exec, B.bytes, hml, findClass_of_methodNamed B.named, atoms_spec (ws := wsX8_net) B.pre⟩, hK⟩
  have hx := B.exec
  have hb := B.bytes
  have hr := B.returns
  have hlocks := B.notSynchronized
  have Y : mY D A M s s.heap [] := ⟨hw, va_S.rf⟩
  have hl := lv_entry ([.ref (g.1 11 0), .int a, .int (nI b.toNat)]) (n := 3) (Nat.le_of_ble_eq_true rfl)
  rw [lg_entry_eq]
  generalize (lg_sl ([.ref (g.1 11 0), .int a, .int (nI b.toNat)]) ++ List.replicate (3 - (lg_sl ([.ref (g.1 11 0), .int a, .int (nI b.toNat)])).length) Slot.unset).toArray = ls at hl ⊢
  have hl : lv_has ls 3 [(0, .ref (g.1 11 0)), (1, .int a), (2, .int (nI b.toNat))] := hl
  have hwn := hwf.2.2.2.1
  have hwd := hwf.1
  have hb9 := Bool.toNat_le b
  cases hva : vI a 4 with
  | false =>
    refine lv_aload_n hx hb dX8_net_0 rfl (lv_at hl 0 rfl) ?_
    refine lv_iload_n hx hb dX8_net_1 rfl (lv_at hl 1 rfl) ?_
    refine m_rSi (As := [.int a]) (rest := [.ref (g.1 11 0)]) X Y hA hcx (c_m_isBank l D kc A e0 M a) (va_cwS 1 X.1.2.2.2.2 gX8_net_X8_isBank rfl rfl rfl (by decide +kernel) ⟨Nat.le_of_ble_eq_true rfl, Nat.le_of_ble_eq_true rfl⟩) rfl rfl hl.1 (Nat.le_of_ble_eq_true rfl) dX8_net_2 ⟨by decide, by decide⟩ (fun H locs Y => ?_)
    refine n_top (bN_f (by rw [hva]; decide)) ?_
    refine n_if_eq hx hb 12 (by omega) dX8_net_5 (by decide) (fun _ => ?_) (fun zq => absurd zq (by decide))
    refine n_iconst hx hb 1 dX8_net_12 (by decide) ?_
    have hg1 := hG.f11 (hpr 11 (by decide))
    refine m_Vi (As := [.int (nI 1)]) (rest := []) X Y hA hcx (c_m_fails l D kc A e0 M hG hwf hpr 1 (by decide)) (cwV 1 X.1.2.2.2.2 gX8_net_X8_fails rfl rfl rfl (by decide +kernel) ⟨Nat.le_of_ble_eq_true rfl, Nat.le_of_ble_eq_true rfl⟩) hg1 rfl rfl rfl hl.1 (Nat.le_of_ble_eq_true rfl) dX8_net_13 ⟨by decide, by decide⟩ (fun r2 M3 H locs p4 Y => ?_)
    obtain ⟨hr9, hG5⟩ := p4
    refine n_top (hr9.trans (bN_t (by decide))) ?_
    refine n_if_eq hx hb 23 (by omega) dX8_net_16 (by decide) (fun zq => absurd zq (by decide)) (fun _ => ?_)
    refine lv_lconst (v := 0) hx hb dX8_net_19 (by decide) ?_
    refine lv_goto (tgt := 42) hx hb dX8_net_20 (by decide) ?_
    refine m_lret X Y hr hlocks (by decide) (by decide) ?_ dX8_net_42
    have e9 : sp_net τ a b = (1, 0) := by (simp only [sp_net, hva, Bool.and_self, Bool.and_true, Bool.and_false, Bool.false_and, Bool.true_and, Bool.false_eq_true, reduceIte]) <;> rfl
    exact ⟨by rw [e9], by rw [e9]; exact hG5⟩
  | true =>
    obtain ⟨ja, hja, hla, rfl⟩ := vI_t hva
    refine lv_aload_n hx hb dX8_net_0 rfl (lv_at hl 0 rfl) ?_
    refine lv_iload_n hx hb dX8_net_1 rfl (lv_at hl 1 rfl) ?_
    refine m_rSi (As := [.int (nI ja)]) (rest := [.ref (g.1 11 0)]) X Y hA hcx (c_m_isBank l D kc A e0 M (nI ja)) (va_cwS 1 X.1.2.2.2.2 gX8_net_X8_isBank rfl rfl rfl (by decide +kernel) ⟨Nat.le_of_ble_eq_true rfl, Nat.le_of_ble_eq_true rfl⟩) rfl rfl hl.1 (Nat.le_of_ble_eq_true rfl) dX8_net_2 ⟨by decide, by decide⟩ (fun H locs Y => ?_)
    refine n_top (bN_t hva) ?_
    refine n_if_eq hx hb 12 (by omega) dX8_net_5 (by decide) (fun zq => absurd zq (by decide)) (fun _ => ?_)
    refine n_iconst hx hb 0 dX8_net_8 (by decide) ?_
    refine lv_goto (tgt := 13) hx hb dX8_net_9 (by decide) ?_
    have hg6 := hG.f11 (hpr 11 (by decide))
    refine m_Vi (As := [.int (nI 0)]) (rest := []) X Y hA hcx (c_m_fails l D kc A e0 M hG hwf hpr 0 (by decide)) (cwV 1 X.1.2.2.2.2 gX8_net_X8_fails rfl rfl rfl (by decide +kernel) ⟨Nat.le_of_ble_eq_true rfl, Nat.le_of_ble_eq_true rfl⟩) hg6 rfl rfl rfl hl.1 (Nat.le_of_ble_eq_true rfl) dX8_net_13 ⟨by decide, by decide⟩ (fun r7 M8 H locs p9 Y => ?_)
    obtain ⟨hr9, hG10⟩ := p9
    refine n_top (hr9.trans (bN_f (by decide))) ?_
    refine n_if_eq hx hb 23 (by omega) dX8_net_16 (by decide) (fun _ => ?_) (fun zq => absurd zq (by decide))
    refine lv_iload_n hx hb dX8_net_23 rfl (lv_at hl 2 rfl) ?_
    refine n_if_eq hx hb 36 (by omega) dX8_net_24 (by decide) (fun c24 => ?_) (fun c24 => ?_)
    · refine lv_aload_n hx hb dX8_net_36 rfl (lv_at hl 0 rfl) ?_
      have hg11 := hG10.f11 (hpr 11 (by decide))
      refine m_get (ref := "CardPortModel") (C := RX8) (T := TX8) (N := 25) (ci := 9) X Y htX8_net_wsX801 hg11 rfl 23 (by decide) kwX8_net_2 rfl (v := .ref (g.1 12 23)) rfl dX8_net_37 ?_
      refine lv_iload_n hx hb dX8_net_40 rfl (lv_at hl 1 rfl) ?_
      refine g_tlld X Y hG10 (hpr 12 (by decide)) (j := ja) (show ja < 4 by omega) (v := τ.2 1 ja) rfl dX8_net_41 ?_
      refine m_lret X Y hr hlocks (by decide) (by decide) ?_ dX8_net_42
      have hb8 : b = false := by cases b; rfl; exact absurd c24 (by decide)
      have e9 : sp_net τ (nI ja) b = (0, lI (τ.2 1 ja)) := by (simp only [sp_net, hva, ix_nI hla, Bool.and_self, Bool.and_true, Bool.and_false, Bool.false_and, Bool.true_and, Bool.false_eq_true, reduceIte]; rw [hb8]) <;> rfl
      exact ⟨by rw [e9], by rw [e9]; exact hG10⟩
    · refine lv_aload_n hx hb dX8_net_27 rfl (lv_at hl 0 rfl) ?_
      have hg12 := hG10.f11 (hpr 11 (by decide))
      refine m_get (ref := "CardPortModel") (C := RX8) (T := TX8) (N := 25) (ci := 9) X Y htX8_net_wsX801 hg12 rfl 22 (by decide) kwX8_net_1 rfl (v := .ref (g.1 12 22)) rfl dX8_net_28 ?_
      refine lv_iload_n hx hb dX8_net_31 rfl (lv_at hl 1 rfl) ?_
      refine g_alld X Y hG10 (hpr 12 (by decide)) (j := ja) (show ja < 4 by omega) (v := τ.2 0 ja) rfl dX8_net_32 ?_
      refine lv_goto (tgt := 42) hx hb dX8_net_33 (by decide) ?_
      refine m_lret X Y hr hlocks (by decide) (by decide) ?_ dX8_net_42
      have hb8 : b = true := by cases b; exact absurd c24 (by decide); rfl
      have e9 : sp_net τ (nI ja) b = (0, lI (τ.2 0 ja)) := by (simp only [sp_net, hva, ix_nI hla, Bool.and_self, Bool.and_true, Bool.and_false, Bool.false_and, Bool.true_and, Bool.false_eq_true, reduceIte]; rw [hb8]) <;> rfl
      exact ⟨by rw [e9], by rw [e9]; exact hG10⟩
theorem kwX8_netAnew_1 : Cond.fieldLink RX8 62 "CardPortModel" "all" "[J" ∈ wsX8_netAnew := List.mem_of_getElem? (i := 1) rfl
theorem htX8_netAnew_wsX801 : ∀ w ∈ wsX80, w ∈ wsX8_netAnew := fun _ h => List.mem_cons_of_mem _ (List.mem_append_right _ h)
set_option maxHeartbeats 4000000 in
set_option maxRecDepth 100000 in
theorem c_X8_netAnew (l : Launch) (D : va_G) (kc : Nat → ClassId) (A : Nat → Prop) (e0 : Nat × Nat) (M : Mp) {pr : Nat → Prop} {σ τ : Sg} {th : Int32} {o : Int64} {g : Gh} {nn : Nat} (hG : G pr kc e0 σ τ th o g M) (hwf : WS nn τ) (hpr : ∀ t, t ≤ 13 → pr t) (a : Int32) : Met l yX8_netAnew wsX8_netAnew ({ frames := 2, cells := 0, slots := 0, locals := 42 }) (mPre D kc A e0 M [.ref (g.1 11 0), .int a]) (va_Ql (fun r M1 => r = (sp_netAnew τ a).2 ∧ G pr kc e0 σ τ (nI (sp_netAnew τ a).1) o g M1) (mB D A) A) 0 0 A := by
  refine Met.ofW (cc := cX8_netAnew) (maxL := 2) (ret := (some .long)) (by decide) rfl ?_
  intro p e s m args below meth c s₁ B hml hv
  obtain ⟨rfl, hw, hK, hA, hcx⟩ := hv
  have X : mX p s m _ c cX8_netAnew 2 RX8 wsX8_netAnew D kc := ⟨⟨B.exec, B.bytes, hml, findClass_of_methodNamed B.named, atoms_spec (ws := wsX8_netAnew) B.pre⟩, hK⟩
  have hx := B.exec
  have hb := B.bytes
  have hr := B.returns
  have hlocks := B.notSynchronized
  have Y : mY D A M s s.heap [] := ⟨hw, va_S.rf⟩
  have hl := lv_entry ([.ref (g.1 11 0), .int a]) (n := 2) (Nat.le_of_ble_eq_true rfl)
  rw [lg_entry_eq]
  generalize (lg_sl ([.ref (g.1 11 0), .int a]) ++ List.replicate (2 - (lg_sl ([.ref (g.1 11 0), .int a])).length) Slot.unset).toArray = ls at hl ⊢
  have hl : lv_has ls 2 [(0, .ref (g.1 11 0)), (1, .int a)] := hl
  have hwn := hwf.2.2.2.1
  have hwd := hwf.1
  cases hva : vI a 4 with
  | false =>
    refine lv_aload_n hx hb dX8_netAnew_0 rfl (lv_at hl 0 rfl) ?_
    refine lv_iload_n hx hb dX8_netAnew_1 rfl (lv_at hl 1 rfl) ?_
    refine m_rSi (As := [.int a]) (rest := [.ref (g.1 11 0)]) X Y hA hcx (c_m_isBank l D kc A e0 M a) (va_cwS 1 X.1.2.2.2.2 gX8_netAnew_X8_isBank rfl rfl rfl (by decide +kernel) ⟨Nat.le_of_ble_eq_true rfl, Nat.le_of_ble_eq_true rfl⟩) rfl rfl hl.1 (Nat.le_of_ble_eq_true rfl) dX8_netAnew_2 ⟨by decide, by decide⟩ (fun H locs Y => ?_)
    refine n_top (bN_f (by rw [hva]; decide)) ?_
    refine n_if_eq hx hb 12 (by omega) dX8_netAnew_5 (by decide) (fun _ => ?_) (fun zq => absurd zq (by decide))
    refine n_iconst hx hb 1 dX8_netAnew_12 (by decide) ?_
    have hg1 := hG.f11 (hpr 11 (by decide))
    refine m_Vi (As := [.int (nI 1)]) (rest := []) X Y hA hcx (c_m_fails l D kc A e0 M hG hwf hpr 1 (by decide)) (cwV 1 X.1.2.2.2.2 gX8_netAnew_X8_fails rfl rfl rfl (by decide +kernel) ⟨Nat.le_of_ble_eq_true rfl, Nat.le_of_ble_eq_true rfl⟩) hg1 rfl rfl rfl hl.1 (Nat.le_of_ble_eq_true rfl) dX8_netAnew_13 ⟨by decide, by decide⟩ (fun r2 M3 H locs p4 Y => ?_)
    obtain ⟨hr9, hG5⟩ := p4
    refine n_top (hr9.trans (bN_t (by decide))) ?_
    refine n_if_eq hx hb 23 (by omega) dX8_netAnew_16 (by decide) (fun zq => absurd zq (by decide)) (fun _ => ?_)
    refine lv_lconst (v := 0) hx hb dX8_netAnew_19 (by decide) ?_
    refine lv_goto (tgt := 29) hx hb dX8_netAnew_20 (by decide) ?_
    refine m_lret X Y hr hlocks (by decide) (by decide) ?_ dX8_netAnew_29
    have e9 : sp_netAnew τ a = (1, 0) := by (simp only [sp_netAnew, hva, Bool.and_self, Bool.and_true, Bool.and_false, Bool.false_and, Bool.true_and, Bool.false_eq_true, reduceIte]) <;> rfl
    exact ⟨by rw [e9], by rw [e9]; exact hG5⟩
  | true =>
    obtain ⟨ja, hja, hla, rfl⟩ := vI_t hva
    refine lv_aload_n hx hb dX8_netAnew_0 rfl (lv_at hl 0 rfl) ?_
    refine lv_iload_n hx hb dX8_netAnew_1 rfl (lv_at hl 1 rfl) ?_
    refine m_rSi (As := [.int (nI ja)]) (rest := [.ref (g.1 11 0)]) X Y hA hcx (c_m_isBank l D kc A e0 M (nI ja)) (va_cwS 1 X.1.2.2.2.2 gX8_netAnew_X8_isBank rfl rfl rfl (by decide +kernel) ⟨Nat.le_of_ble_eq_true rfl, Nat.le_of_ble_eq_true rfl⟩) rfl rfl hl.1 (Nat.le_of_ble_eq_true rfl) dX8_netAnew_2 ⟨by decide, by decide⟩ (fun H locs Y => ?_)
    refine n_top (bN_t hva) ?_
    refine n_if_eq hx hb 12 (by omega) dX8_netAnew_5 (by decide) (fun zq => absurd zq (by decide)) (fun _ => ?_)
    refine n_iconst hx hb 0 dX8_netAnew_8 (by decide) ?_
    refine lv_goto (tgt := 13) hx hb dX8_netAnew_9 (by decide) ?_
    have hg6 := hG.f11 (hpr 11 (by decide))
    refine m_Vi (As := [.int (nI 0)]) (rest := []) X Y hA hcx (c_m_fails l D kc A e0 M hG hwf hpr 0 (by decide)) (cwV 1 X.1.2.2.2.2 gX8_netAnew_X8_fails rfl rfl rfl (by decide +kernel) ⟨Nat.le_of_ble_eq_true rfl, Nat.le_of_ble_eq_true rfl⟩) hg6 rfl rfl rfl hl.1 (Nat.le_of_ble_eq_true rfl) dX8_netAnew_13 ⟨by decide, by decide⟩ (fun r7 M8 H locs p9 Y => ?_)
    obtain ⟨hr9, hG10⟩ := p9
    refine n_top (hr9.trans (bN_f (by decide))) ?_
    refine n_if_eq hx hb 23 (by omega) dX8_netAnew_16 (by decide) (fun _ => ?_) (fun zq => absurd zq (by decide))
    refine lv_aload_n hx hb dX8_netAnew_23 rfl (lv_at hl 0 rfl) ?_
    have hg11 := hG10.f11 (hpr 11 (by decide))
    refine m_get (ref := "CardPortModel") (C := RX8) (T := TX8) (N := 25) (ci := 9) X Y htX8_netAnew_wsX801 hg11 rfl 22 (by decide) kwX8_netAnew_1 rfl (v := .ref (g.1 12 22)) rfl dX8_netAnew_24 ?_
    refine lv_iload_n hx hb dX8_netAnew_27 rfl (lv_at hl 1 rfl) ?_
    refine g_alld X Y hG10 (hpr 12 (by decide)) (j := ja) (show ja < 4 by omega) (v := τ.2 0 ja) rfl dX8_netAnew_28 ?_
    refine m_lret X Y hr hlocks (by decide) (by decide) ?_ dX8_netAnew_29
    have e9 : sp_netAnew τ (nI ja) = (0, lI (τ.2 0 ja)) := by (simp only [sp_netAnew, hva, ix_nI hla, Bool.and_self, Bool.and_true, Bool.and_false, Bool.false_and, Bool.true_and, Bool.false_eq_true, reduceIte]) <;> rfl
    exact ⟨by rw [e9], by rw [e9]; exact hG10⟩
theorem kwX8_count_5 : Cond.fieldLink RX8 114 "CardPortModel" "day" "I" ∈ wsX8_count := List.mem_of_getElem? (i := 5) rfl
theorem htX8_count_wsX801 : ∀ w ∈ wsX80, w ∈ wsX8_count := fun _ h => List.mem_cons_of_mem _ (List.mem_append_right _ h)
theorem kwX8_count_4 : Cond.fieldLink RX8 123 "CardPortModel" "fees" "I" ∈ wsX8_count := List.mem_of_getElem? (i := 4) rfl
theorem kwX8_count_3 : Cond.fieldLink RX8 136 "CardPortModel" "chargebacks" "I" ∈ wsX8_count := List.mem_of_getElem? (i := 3) rfl
theorem kwX8_count_2 : Cond.fieldLink RX8 94 "CardPortModel" "captures" "I" ∈ wsX8_count := List.mem_of_getElem? (i := 2) rfl
theorem kwX8_count_1 : Cond.fieldLink RX8 107 "CardPortModel" "payments" "I" ∈ wsX8_count := List.mem_of_getElem? (i := 1) rfl
set_option maxHeartbeats 4000000 in
set_option maxRecDepth 100000 in
theorem c_X8_count (l : Launch) (D : va_G) (kc : Nat → ClassId) (A : Nat → Prop) (e0 : Nat × Nat) (M : Mp) {pr : Nat → Prop} {σ τ : Sg} {th : Int32} {o : Int64} {g : Gh} {nn : Nat} (hG : G pr kc e0 σ τ th o g M) (hwf : WS nn τ) (hpr : ∀ t, t ≤ 13 → pr t) (a : Int32) : Met l yX8_count wsX8_count ({ frames := 1, cells := 0, slots := 0, locals := 22 }) (mPre D kc A e0 M [.ref (g.1 11 0), .int a]) (va_Qi (MC pr kc e0 σ o g (sp_count τ a)) (mB D A) A) 0 0 A := by
  refine Met.ofW (cc := cX8_count) (maxL := 2) (ret := (some .int)) (by decide) rfl ?_
  intro p e s m args below meth c s₁ B hml hv
  obtain ⟨rfl, hw, hK, hA, hcx⟩ := hv
  have X : mX p s m _ c cX8_count 2 RX8 wsX8_count D kc := ⟨⟨B.exec, B.bytes, hml, findClass_of_methodNamed B.named, atoms_spec (ws := wsX8_count) B.pre⟩, hK⟩
  have hx := B.exec
  have hb := B.bytes
  have hr := B.returns
  have hlocks := B.notSynchronized
  have Y : mY D A M s s.heap [] := ⟨hw, va_S.rf⟩
  have hl := lv_entry ([.ref (g.1 11 0), .int a]) (n := 2) (Nat.le_of_ble_eq_true rfl)
  rw [lg_entry_eq]
  generalize (lg_sl ([.ref (g.1 11 0), .int a]) ++ List.replicate (2 - (lg_sl ([.ref (g.1 11 0), .int a])).length) Slot.unset).toArray = ls at hl ⊢
  have hl : lv_has ls 2 [(0, .ref (g.1 11 0)), (1, .int a)] := hl
  have hwn := hwf.2.2.2.1
  have hwd := hwf.1
  cases hva : vI a 5 with
  | false =>
    refine lv_aload_n hx hb dX8_count_0 rfl (lv_at hl 0 rfl) ?_
    refine lv_iload_n hx hb dX8_count_1 rfl (lv_at hl 1 rfl) ?_
    refine n_iconst hx hb 0 dX8_count_2 (by decide) ?_
    refine n_iconst hx hb 4 dX8_count_3 (by decide) ?_
    refine m_rSi (As := [.int a, .int (nI 0), .int (nI 4)]) (rest := [.ref (g.1 11 0)]) X Y hA hcx (c_m_isIn l D kc A e0 M a 0 (nI 4)) (va_cwS 3 X.1.2.2.2.2 gX8_count_X8_isIn rfl rfl rfl (by decide +kernel) ⟨Nat.le_of_ble_eq_true rfl, Nat.le_of_ble_eq_true rfl⟩) rfl rfl hl.1 (Nat.le_of_ble_eq_true rfl) dX8_count_4 ⟨by decide, by decide⟩ (fun H locs Y => ?_)
    refine n_top (bN_c (isIn_vI2 (by decide))) ?_
    refine n_top (bN_f (by rw [hva]; decide)) ?_
    refine n_if_eq hx hb 14 (by omega) dX8_count_7 (by decide) (fun _ => ?_) (fun zq => absurd zq (by decide))
    refine n_iconst hx hb 1 dX8_count_14 (by decide) ?_
    have hg1 := hG.f11 (hpr 11 (by decide))
    refine m_Vi (As := [.int (nI 1)]) (rest := []) X Y hA hcx (c_m_fails l D kc A e0 M hG hwf hpr 1 (by decide)) (cwV 1 X.1.2.2.2.2 gX8_count_X8_fails rfl rfl rfl (by decide +kernel) ⟨Nat.le_of_ble_eq_true rfl, Nat.le_of_ble_eq_true rfl⟩) hg1 rfl rfl rfl hl.1 (Nat.le_of_ble_eq_true rfl) dX8_count_15 ⟨by decide, by decide⟩ (fun r2 M3 H locs p4 Y => ?_)
    obtain ⟨hr9, hG5⟩ := p4
    refine n_top (hr9.trans (bN_t (by decide))) ?_
    refine n_if_eq hx hb 23 (by omega) dX8_count_18 (by decide) (fun zq => absurd zq (by decide)) (fun _ => ?_)
    refine n_iconst hx hb 0 dX8_count_21 (by decide) ?_
    refine m_iret X Y hr hlocks (by decide) (by decide) ?_ dX8_count_22
    exact MC_i (c := 1) (by (simp only [sp_count, hva, Bool.and_self, Bool.and_true, Bool.and_false, Bool.false_and, Bool.true_and, Bool.false_eq_true, reduceIte]) <;> rfl) hG5
  | true =>
    obtain ⟨ja, hja, hla, rfl⟩ := vI_t hva
    refine lv_aload_n hx hb dX8_count_0 rfl (lv_at hl 0 rfl) ?_
    refine lv_iload_n hx hb dX8_count_1 rfl (lv_at hl 1 rfl) ?_
    refine n_iconst hx hb 0 dX8_count_2 (by decide) ?_
    refine n_iconst hx hb 4 dX8_count_3 (by decide) ?_
    refine m_rSi (As := [.int (nI ja), .int (nI 0), .int (nI 4)]) (rest := [.ref (g.1 11 0)]) X Y hA hcx (c_m_isIn l D kc A e0 M (nI ja) 0 (nI 4)) (va_cwS 3 X.1.2.2.2.2 gX8_count_X8_isIn rfl rfl rfl (by decide +kernel) ⟨Nat.le_of_ble_eq_true rfl, Nat.le_of_ble_eq_true rfl⟩) rfl rfl hl.1 (Nat.le_of_ble_eq_true rfl) dX8_count_4 ⟨by decide, by decide⟩ (fun H locs Y => ?_)
    refine n_top (bN_c (isIn_vI2 (by decide))) ?_
    refine n_top (bN_t hva) ?_
    refine n_if_eq hx hb 14 (by omega) dX8_count_7 (by decide) (fun zq => absurd zq (by decide)) (fun _ => ?_)
    refine n_iconst hx hb 0 dX8_count_10 (by decide) ?_
    refine lv_goto (tgt := 15) hx hb dX8_count_11 (by decide) ?_
    have hg6 := hG.f11 (hpr 11 (by decide))
    refine m_Vi (As := [.int (nI 0)]) (rest := []) X Y hA hcx (c_m_fails l D kc A e0 M hG hwf hpr 0 (by decide)) (cwV 1 X.1.2.2.2.2 gX8_count_X8_fails rfl rfl rfl (by decide +kernel) ⟨Nat.le_of_ble_eq_true rfl, Nat.le_of_ble_eq_true rfl⟩) hg6 rfl rfl rfl hl.1 (Nat.le_of_ble_eq_true rfl) dX8_count_15 ⟨by decide, by decide⟩ (fun r7 M8 H locs p9 Y => ?_)
    obtain ⟨hr9, hG10⟩ := p9
    refine n_top (hr9.trans (bN_f (by decide))) ?_
    refine n_if_eq hx hb 23 (by omega) dX8_count_18 (by decide) (fun _ => ?_) (fun zq => absurd zq (by decide))
    refine lv_iload_n hx hb dX8_count_23 rfl (lv_at hl 1 rfl) ?_
    refine n_if_ne hx hb 34 (by omega) dX8_count_24 (by decide) (fun c24 => ?_) (fun c24 => ?_)
    · refine lv_iload_n hx hb dX8_count_34 rfl (lv_at hl 1 rfl) ?_
      refine n_iconst hx hb 1 dX8_count_35 (by decide) ?_
      refine n_icmp_ne hx hb 46 (by omega) (by omega) dX8_count_36 (by decide) (fun c36 => ?_) (fun c36 => ?_)
      · refine lv_iload_n hx hb dX8_count_46 rfl (lv_at hl 1 rfl) ?_
        refine n_iconst hx hb 2 dX8_count_47 (by decide) ?_
        refine n_icmp_ne hx hb 58 (by omega) (by omega) dX8_count_48 (by decide) (fun c48 => ?_) (fun c48 => ?_)
        · refine lv_iload_n hx hb dX8_count_58 rfl (lv_at hl 1 rfl) ?_
          refine n_iconst hx hb 3 dX8_count_59 (by decide) ?_
          refine n_icmp_ne hx hb 70 (by omega) (by omega) dX8_count_60 (by decide) (fun c60 => ?_) (fun c60 => ?_)
          · refine lv_aload_n hx hb dX8_count_70 rfl (lv_at hl 0 rfl) ?_
            have hg11 := hG10.f11 (hpr 11 (by decide))
            refine m_get (ref := "CardPortModel") (C := RX8) (T := TX8) (N := 25) (ci := 9) X Y htX8_count_wsX801 hg11 rfl 0 (by decide) kwX8_count_5 rfl (v := .int (nI (tD τ))) rfl dX8_count_71 ?_
            refine m_iret X Y hr hlocks (by decide) (by decide) ?_ dX8_count_74
            have e8 : cntN τ ja = tD τ := by unfold cntN; (repeat' split) <;> first | rfl | (exfalso; omega)
            exact MC_i (c := 0) (by (simp only [sp_count, hva, ix_nI hla, Bool.and_self, Bool.and_true, Bool.and_false, Bool.false_and, Bool.true_and, Bool.false_eq_true, reduceIte]; rw [e8]) <;> rfl) hG10
          · refine lv_aload_n hx hb dX8_count_63 rfl (lv_at hl 0 rfl) ?_
            have hg12 := hG10.f11 (hpr 11 (by decide))
            refine m_get (ref := "CardPortModel") (C := RX8) (T := TX8) (N := 25) (ci := 9) X Y htX8_count_wsX801 hg12 rfl 21 (by decide) kwX8_count_4 rfl (v := .int (nI (τ.1 21 0))) rfl dX8_count_64 ?_
            refine lv_goto (tgt := 74) hx hb dX8_count_67 (by decide) ?_
            refine m_iret X Y hr hlocks (by decide) (by decide) ?_ dX8_count_74
            have e8 : cntN τ ja = τ.1 21 0 := by unfold cntN; (repeat' split) <;> first | rfl | (exfalso; omega)
            exact MC_i (c := 0) (by (simp only [sp_count, hva, ix_nI hla, Bool.and_self, Bool.and_true, Bool.and_false, Bool.false_and, Bool.true_and, Bool.false_eq_true, reduceIte]; rw [e8]) <;> rfl) hG10
        · refine lv_aload_n hx hb dX8_count_51 rfl (lv_at hl 0 rfl) ?_
          have hg13 := hG10.f11 (hpr 11 (by decide))
          refine m_get (ref := "CardPortModel") (C := RX8) (T := TX8) (N := 25) (ci := 9) X Y htX8_count_wsX801 hg13 rfl 16 (by decide) kwX8_count_3 rfl (v := .int (nI (nB τ))) rfl dX8_count_52 ?_
          refine lv_goto (tgt := 74) hx hb dX8_count_55 (by decide) ?_
          refine m_iret X Y hr hlocks (by decide) (by decide) ?_ dX8_count_74
          have e8 : cntN τ ja = nB τ := by unfold cntN; (repeat' split) <;> first | rfl | (exfalso; omega)
          exact MC_i (c := 0) (by (simp only [sp_count, hva, ix_nI hla, Bool.and_self, Bool.and_true, Bool.and_false, Bool.false_and, Bool.true_and, Bool.false_eq_true, reduceIte]; rw [e8]) <;> rfl) hG10
      · refine lv_aload_n hx hb dX8_count_39 rfl (lv_at hl 0 rfl) ?_
        have hg14 := hG10.f11 (hpr 11 (by decide))
        refine m_get (ref := "CardPortModel") (C := RX8) (T := TX8) (N := 25) (ci := 9) X Y htX8_count_wsX801 hg14 rfl 11 (by decide) kwX8_count_2 rfl (v := .int (nI (nC τ))) rfl dX8_count_40 ?_
        refine lv_goto (tgt := 74) hx hb dX8_count_43 (by decide) ?_
        refine m_iret X Y hr hlocks (by decide) (by decide) ?_ dX8_count_74
        have e8 : cntN τ ja = nC τ := by unfold cntN; (repeat' split) <;> first | rfl | (exfalso; omega)
        exact MC_i (c := 0) (by (simp only [sp_count, hva, ix_nI hla, Bool.and_self, Bool.and_true, Bool.and_false, Bool.false_and, Bool.true_and, Bool.false_eq_true, reduceIte]; rw [e8]) <;> rfl) hG10
    · refine lv_aload_n hx hb dX8_count_27 rfl (lv_at hl 0 rfl) ?_
      have hg15 := hG10.f11 (hpr 11 (by decide))
      refine m_get (ref := "CardPortModel") (C := RX8) (T := TX8) (N := 25) (ci := 9) X Y htX8_count_wsX801 hg15 rfl 4 (by decide) kwX8_count_1 rfl (v := .int (nI (nP τ))) rfl dX8_count_28 ?_
      refine lv_goto (tgt := 74) hx hb dX8_count_31 (by decide) ?_
      refine m_iret X Y hr hlocks (by decide) (by decide) ?_ dX8_count_74
      have e8 : cntN τ ja = nP τ := by unfold cntN; (repeat' split) <;> first | rfl | (exfalso; omega)
      exact MC_i (c := 0) (by (simp only [sp_count, hva, ix_nI hla, Bool.and_self, Bool.and_true, Bool.and_false, Bool.false_and, Bool.true_and, Bool.false_eq_true, reduceIte]; rw [e8]) <;> rfl) hG10
theorem kwX8_captureOf_4 : Cond.fieldLink RX8 47 "CardPortModel" "refunded" "[I" ∈ wsX8_captureOf := List.mem_of_getElem? (i := 4) rfl
theorem htX8_captureOf_wsX801 : ∀ w ∈ wsX80, w ∈ wsX8_captureOf := fun _ h => List.mem_cons_of_mem _ (List.mem_append_right _ h)
theorem kwX8_captureOf_3 : Cond.fieldLink RX8 44 "CardPortModel" "fee" "[I" ∈ wsX8_captureOf := List.mem_of_getElem? (i := 3) rfl
theorem kwX8_captureOf_2 : Cond.fieldLink RX8 41 "CardPortModel" "size" "[I" ∈ wsX8_captureOf := List.mem_of_getElem? (i := 2) rfl
theorem kwX8_captureOf_1 : Cond.fieldLink RX8 38 "CardPortModel" "payment" "[I" ∈ wsX8_captureOf := List.mem_of_getElem? (i := 1) rfl
set_option maxHeartbeats 4000000 in
set_option maxRecDepth 100000 in
theorem c_X8_captureOf (l : Launch) (D : va_G) (kc : Nat → ClassId) (A : Nat → Prop) (e0 : Nat × Nat) (M : Mp) {pr : Nat → Prop} {σ τ : Sg} {th : Int32} {o : Int64} {g : Gh} {nn : Nat} (hG : G pr kc e0 σ τ th o g M) (hwf : WS nn τ) (hpr : ∀ t, t ≤ 13 → pr t) (a b : Int32) : Met l yX8_captureOf wsX8_captureOf ({ frames := 2, cells := 0, slots := 0, locals := 43 }) (mPre D kc A e0 M [.ref (g.1 11 0), .int a, .int b]) (va_Qi (MC pr kc e0 σ o g (sp_captureOf τ a b)) (mB D A) A) 0 0 A := by
  refine Met.ofW (cc := cX8_captureOf) (maxL := 3) (ret := (some .int)) (by decide) rfl ?_
  intro p e s m args below meth c s₁ B hml hv
  obtain ⟨rfl, hw, hK, hA, hcx⟩ := hv
  have X : mX p s m _ c cX8_captureOf 3 RX8 wsX8_captureOf D kc := ⟨⟨B.exec, B.bytes, hml, findClass_of_methodNamed B.named, atoms_spec (ws := wsX8_captureOf) B.pre⟩, hK⟩
  have hx := B.exec
  have hb := B.bytes
  have hr := B.returns
  have hlocks := B.notSynchronized
  have Y : mY D A M s s.heap [] := ⟨hw, va_S.rf⟩
  have hl := lv_entry ([.ref (g.1 11 0), .int a, .int b]) (n := 3) (Nat.le_of_ble_eq_true rfl)
  rw [lg_entry_eq]
  generalize (lg_sl ([.ref (g.1 11 0), .int a, .int b]) ++ List.replicate (3 - (lg_sl ([.ref (g.1 11 0), .int a, .int b])).length) Slot.unset).toArray = ls at hl ⊢
  have hl : lv_has ls 3 [(0, .ref (g.1 11 0)), (1, .int a), (2, .int b)] := hl
  have hwn := hwf.2.2.2.1
  have hwd := hwf.1
  cases hva : vI a (nC τ) with
  | false =>
    cases hvb : vI b 5 with
    | false =>
      refine lv_aload_n hx hb dX8_captureOf_0 rfl (lv_at hl 0 rfl) ?_
      refine lv_aload_n hx hb dX8_captureOf_1 rfl (lv_at hl 0 rfl) ?_
      refine lv_iload_n hx hb dX8_captureOf_2 rfl (lv_at hl 1 rfl) ?_
      have hg1 := hG.f11 (hpr 11 (by decide))
      refine m_rVi (As := [.int a]) (rest := [.ref (g.1 11 0)]) X Y hA hcx (c_m_isCapture l D kc A e0 M hG hwf hpr a) (cwV 1 X.1.2.2.2.2 gX8_captureOf_X8_isCapture rfl rfl rfl (by decide +kernel) ⟨Nat.le_of_ble_eq_true rfl, Nat.le_of_ble_eq_true rfl⟩) hg1 rfl rfl rfl hl.1 (Nat.le_of_ble_eq_true rfl) dX8_captureOf_3 ⟨by decide, by decide⟩ (fun H locs Y => ?_)
      refine n_top (bN_f (by rw [hva]; decide)) ?_
      refine n_if_ne hx hb 13 (by omega) dX8_captureOf_6 (by decide) (fun zq => absurd zq (by decide)) (fun _ => ?_)
      refine n_iconst hx hb 1 dX8_captureOf_9 (by decide) ?_
      refine lv_goto (tgt := 27) hx hb dX8_captureOf_10 (by decide) ?_
      refine m_Vi (As := [.int (nI 1)]) (rest := []) X Y hA hcx (c_m_fails l D kc A e0 M hG hwf hpr 1 (by decide)) (cwV 1 X.1.2.2.2.2 gX8_captureOf_X8_fails rfl rfl rfl (by decide +kernel) ⟨Nat.le_of_ble_eq_true rfl, Nat.le_of_ble_eq_true rfl⟩) hg1 rfl rfl rfl hl.1 (Nat.le_of_ble_eq_true rfl) dX8_captureOf_27 ⟨by decide, by decide⟩ (fun r2 M3 H locs p4 Y => ?_)
      obtain ⟨hr9, hG5⟩ := p4
      refine n_top (hr9.trans (bN_t (by decide))) ?_
      refine n_if_eq hx hb 35 (by omega) dX8_captureOf_30 (by decide) (fun zq => absurd zq (by decide)) (fun _ => ?_)
      refine n_iconst hx hb 0 dX8_captureOf_33 (by decide) ?_
      refine m_iret X Y hr hlocks (by decide) (by decide) ?_ dX8_captureOf_34
      exact MC_i (c := 1) (by (simp only [sp_captureOf, hva, hvb, Bool.and_self, Bool.and_true, Bool.and_false, Bool.false_and, Bool.true_and, Bool.false_eq_true, reduceIte]) <;> rfl) hG5
    | true =>
      obtain ⟨jb, hjb, hlb, rfl⟩ := vI_t hvb
      refine lv_aload_n hx hb dX8_captureOf_0 rfl (lv_at hl 0 rfl) ?_
      refine lv_aload_n hx hb dX8_captureOf_1 rfl (lv_at hl 0 rfl) ?_
      refine lv_iload_n hx hb dX8_captureOf_2 rfl (lv_at hl 1 rfl) ?_
      have hg6 := hG.f11 (hpr 11 (by decide))
      refine m_rVi (As := [.int a]) (rest := [.ref (g.1 11 0)]) X Y hA hcx (c_m_isCapture l D kc A e0 M hG hwf hpr a) (cwV 1 X.1.2.2.2.2 gX8_captureOf_X8_isCapture rfl rfl rfl (by decide +kernel) ⟨Nat.le_of_ble_eq_true rfl, Nat.le_of_ble_eq_true rfl⟩) hg6 rfl rfl rfl hl.1 (Nat.le_of_ble_eq_true rfl) dX8_captureOf_3 ⟨by decide, by decide⟩ (fun H locs Y => ?_)
      refine n_top (bN_f (by rw [hva]; decide)) ?_
      refine n_if_ne hx hb 13 (by omega) dX8_captureOf_6 (by decide) (fun zq => absurd zq (by decide)) (fun _ => ?_)
      refine n_iconst hx hb 1 dX8_captureOf_9 (by decide) ?_
      refine lv_goto (tgt := 27) hx hb dX8_captureOf_10 (by decide) ?_
      refine m_Vi (As := [.int (nI 1)]) (rest := []) X Y hA hcx (c_m_fails l D kc A e0 M hG hwf hpr 1 (by decide)) (cwV 1 X.1.2.2.2.2 gX8_captureOf_X8_fails rfl rfl rfl (by decide +kernel) ⟨Nat.le_of_ble_eq_true rfl, Nat.le_of_ble_eq_true rfl⟩) hg6 rfl rfl rfl hl.1 (Nat.le_of_ble_eq_true rfl) dX8_captureOf_27 ⟨by decide, by decide⟩ (fun r7 M8 H locs p9 Y => ?_)
      obtain ⟨hr9, hG10⟩ := p9
      refine n_top (hr9.trans (bN_t (by decide))) ?_
      refine n_if_eq hx hb 35 (by omega) dX8_captureOf_30 (by decide) (fun zq => absurd zq (by decide)) (fun _ => ?_)
      refine n_iconst hx hb 0 dX8_captureOf_33 (by decide) ?_
      refine m_iret X Y hr hlocks (by decide) (by decide) ?_ dX8_captureOf_34
      exact MC_i (c := 1) (by (simp only [sp_captureOf, hva, hvb, ix_nI hlb, Bool.and_self, Bool.and_true, Bool.and_false, Bool.false_and, Bool.true_and, Bool.false_eq_true, reduceIte]) <;> rfl) hG10
  | true =>
    obtain ⟨ja, hja, hla, rfl⟩ := vI_t hva
    cases hvb : vI b 5 with
    | false =>
      refine lv_aload_n hx hb dX8_captureOf_0 rfl (lv_at hl 0 rfl) ?_
      refine lv_aload_n hx hb dX8_captureOf_1 rfl (lv_at hl 0 rfl) ?_
      refine lv_iload_n hx hb dX8_captureOf_2 rfl (lv_at hl 1 rfl) ?_
      have hg11 := hG.f11 (hpr 11 (by decide))
      refine m_rVi (As := [.int (nI ja)]) (rest := [.ref (g.1 11 0)]) X Y hA hcx (c_m_isCapture l D kc A e0 M hG hwf hpr (nI ja)) (cwV 1 X.1.2.2.2.2 gX8_captureOf_X8_isCapture rfl rfl rfl (by decide +kernel) ⟨Nat.le_of_ble_eq_true rfl, Nat.le_of_ble_eq_true rfl⟩) hg11 rfl rfl rfl hl.1 (Nat.le_of_ble_eq_true rfl) dX8_captureOf_3 ⟨by decide, by decide⟩ (fun H locs Y => ?_)
      refine n_top (bN_t hva) ?_
      refine n_if_ne hx hb 13 (by omega) dX8_captureOf_6 (by decide) (fun _ => ?_) (fun zq => absurd zq (by decide))
      refine lv_iload_n hx hb dX8_captureOf_13 rfl (lv_at hl 2 rfl) ?_
      refine n_iconst hx hb 0 dX8_captureOf_14 (by decide) ?_
      refine n_iconst hx hb 4 dX8_captureOf_15 (by decide) ?_
      refine m_rSi (As := [.int b, .int (nI 0), .int (nI 4)]) (rest := [.ref (g.1 11 0)]) X Y hA hcx (c_m_isIn l D kc A e0 M b 0 (nI 4)) (va_cwS 3 X.1.2.2.2.2 gX8_captureOf_X8_isIn rfl rfl rfl (by decide +kernel) ⟨Nat.le_of_ble_eq_true rfl, Nat.le_of_ble_eq_true rfl⟩) rfl rfl hl.1 (Nat.le_of_ble_eq_true rfl) dX8_captureOf_16 ⟨by decide, by decide⟩ (fun H locs Y => ?_)
      refine n_top (bN_c (isIn_vI2 (by decide))) ?_
      refine n_top (bN_f (by rw [hvb]; decide)) ?_
      refine n_if_eq hx hb 26 (by omega) dX8_captureOf_19 (by decide) (fun _ => ?_) (fun zq => absurd zq (by decide))
      refine n_iconst hx hb 2 dX8_captureOf_26 (by decide) ?_
      refine m_Vi (As := [.int (nI 2)]) (rest := []) X Y hA hcx (c_m_fails l D kc A e0 M hG hwf hpr 2 (by decide)) (cwV 1 X.1.2.2.2.2 gX8_captureOf_X8_fails rfl rfl rfl (by decide +kernel) ⟨Nat.le_of_ble_eq_true rfl, Nat.le_of_ble_eq_true rfl⟩) hg11 rfl rfl rfl hl.1 (Nat.le_of_ble_eq_true rfl) dX8_captureOf_27 ⟨by decide, by decide⟩ (fun r12 M13 H locs p14 Y => ?_)
      obtain ⟨hr9, hG15⟩ := p14
      refine n_top (hr9.trans (bN_t (by decide))) ?_
      refine n_if_eq hx hb 35 (by omega) dX8_captureOf_30 (by decide) (fun zq => absurd zq (by decide)) (fun _ => ?_)
      refine n_iconst hx hb 0 dX8_captureOf_33 (by decide) ?_
      refine m_iret X Y hr hlocks (by decide) (by decide) ?_ dX8_captureOf_34
      exact MC_i (c := 2) (by (simp only [sp_captureOf, hva, ix_nI hla, hvb, Bool.and_self, Bool.and_true, Bool.and_false, Bool.false_and, Bool.true_and, Bool.false_eq_true, reduceIte]) <;> rfl) hG15
    | true =>
      obtain ⟨jb, hjb, hlb, rfl⟩ := vI_t hvb
      refine lv_aload_n hx hb dX8_captureOf_0 rfl (lv_at hl 0 rfl) ?_
      refine lv_aload_n hx hb dX8_captureOf_1 rfl (lv_at hl 0 rfl) ?_
      refine lv_iload_n hx hb dX8_captureOf_2 rfl (lv_at hl 1 rfl) ?_
      have hg16 := hG.f11 (hpr 11 (by decide))
      refine m_rVi (As := [.int (nI ja)]) (rest := [.ref (g.1 11 0)]) X Y hA hcx (c_m_isCapture l D kc A e0 M hG hwf hpr (nI ja)) (cwV 1 X.1.2.2.2.2 gX8_captureOf_X8_isCapture rfl rfl rfl (by decide +kernel) ⟨Nat.le_of_ble_eq_true rfl, Nat.le_of_ble_eq_true rfl⟩) hg16 rfl rfl rfl hl.1 (Nat.le_of_ble_eq_true rfl) dX8_captureOf_3 ⟨by decide, by decide⟩ (fun H locs Y => ?_)
      refine n_top (bN_t hva) ?_
      refine n_if_ne hx hb 13 (by omega) dX8_captureOf_6 (by decide) (fun _ => ?_) (fun zq => absurd zq (by decide))
      refine lv_iload_n hx hb dX8_captureOf_13 rfl (lv_at hl 2 rfl) ?_
      refine n_iconst hx hb 0 dX8_captureOf_14 (by decide) ?_
      refine n_iconst hx hb 4 dX8_captureOf_15 (by decide) ?_
      refine m_rSi (As := [.int (nI jb), .int (nI 0), .int (nI 4)]) (rest := [.ref (g.1 11 0)]) X Y hA hcx (c_m_isIn l D kc A e0 M (nI jb) 0 (nI 4)) (va_cwS 3 X.1.2.2.2.2 gX8_captureOf_X8_isIn rfl rfl rfl (by decide +kernel) ⟨Nat.le_of_ble_eq_true rfl, Nat.le_of_ble_eq_true rfl⟩) rfl rfl hl.1 (Nat.le_of_ble_eq_true rfl) dX8_captureOf_16 ⟨by decide, by decide⟩ (fun H locs Y => ?_)
      refine n_top (bN_c (isIn_vI2 (by decide))) ?_
      refine n_top (bN_t hvb) ?_
      refine n_if_eq hx hb 26 (by omega) dX8_captureOf_19 (by decide) (fun zq => absurd zq (by decide)) (fun _ => ?_)
      refine n_iconst hx hb 0 dX8_captureOf_22 (by decide) ?_
      refine lv_goto (tgt := 27) hx hb dX8_captureOf_23 (by decide) ?_
      refine m_Vi (As := [.int (nI 0)]) (rest := []) X Y hA hcx (c_m_fails l D kc A e0 M hG hwf hpr 0 (by decide)) (cwV 1 X.1.2.2.2.2 gX8_captureOf_X8_fails rfl rfl rfl (by decide +kernel) ⟨Nat.le_of_ble_eq_true rfl, Nat.le_of_ble_eq_true rfl⟩) hg16 rfl rfl rfl hl.1 (Nat.le_of_ble_eq_true rfl) dX8_captureOf_27 ⟨by decide, by decide⟩ (fun r17 M18 H locs p19 Y => ?_)
      obtain ⟨hr9, hG20⟩ := p19
      refine n_top (hr9.trans (bN_f (by decide))) ?_
      refine n_if_eq hx hb 35 (by omega) dX8_captureOf_30 (by decide) (fun _ => ?_) (fun zq => absurd zq (by decide))
      have hw1 := hwf.2.2.2.2.2.2.1 _ hja
      refine lv_iload_n hx hb dX8_captureOf_35 rfl (lv_at hl 2 rfl) ?_
      refine n_if_ne hx hb 48 (by omega) dX8_captureOf_36 (by decide) (fun c36 => ?_) (fun c36 => ?_)
      · refine lv_iload_n hx hb dX8_captureOf_48 rfl (lv_at hl 2 rfl) ?_
        refine n_iconst hx hb 1 dX8_captureOf_49 (by decide) ?_
        refine n_icmp_ne hx hb 62 (by omega) (by omega) dX8_captureOf_50 (by decide) (fun c50 => ?_) (fun c50 => ?_)
        · refine lv_iload_n hx hb dX8_captureOf_62 rfl (lv_at hl 2 rfl) ?_
          refine n_iconst hx hb 2 dX8_captureOf_63 (by decide) ?_
          refine n_icmp_ne hx hb 76 (by omega) (by omega) dX8_captureOf_64 (by decide) (fun c64 => ?_) (fun c64 => ?_)
          · refine lv_iload_n hx hb dX8_captureOf_76 rfl (lv_at hl 2 rfl) ?_
            refine n_iconst hx hb 3 dX8_captureOf_77 (by decide) ?_
            refine n_icmp_ne hx hb 90 (by omega) (by omega) dX8_captureOf_78 (by decide) (fun c78 => ?_) (fun c78 => ?_)
            · refine lv_aload_n hx hb dX8_captureOf_90 rfl (lv_at hl 0 rfl) ?_
              refine lv_iload_n hx hb dX8_captureOf_91 rfl (lv_at hl 1 rfl) ?_
              have hg21 := hG20.f11 (hpr 11 (by decide))
              refine m_rVi (As := [.int (nI ja)]) (rest := []) X Y hA hcx (c_m_gb l D kc A e0 M18 hG20 hwf hpr ja hja) (cwV 1 X.1.2.2.2.2 gX8_captureOf_X8_givenBack rfl rfl rfl (by decide +kernel) ⟨Nat.le_of_ble_eq_true rfl, Nat.le_of_ble_eq_true rfl⟩) hg21 rfl rfl rfl hl.1 (Nat.le_of_ble_eq_true rfl) dX8_captureOf_92 ⟨by decide, by decide⟩ (fun H locs Y => ?_)
              refine m_iret X Y hr hlocks (by decide) (by decide) ?_ dX8_captureOf_95
              have e8 : cofN τ ja jb = (nI (gb τ ja)) := by unfold cofN; (repeat' split) <;> first | rfl | (exfalso; omega)
              exact MC_i (c := 0) (by (simp only [sp_captureOf, hva, ix_nI hla, hvb, ix_nI hlb, Bool.and_self, Bool.and_true, Bool.and_false, Bool.false_and, Bool.true_and, Bool.false_eq_true, reduceIte]; rw [e8]) <;> rfl) hG20
            · refine lv_aload_n hx hb dX8_captureOf_81 rfl (lv_at hl 0 rfl) ?_
              have hg22 := hG20.f11 (hpr 11 (by decide))
              refine m_get (ref := "CardPortModel") (C := RX8) (T := TX8) (N := 25) (ci := 9) X Y htX8_captureOf_wsX801 hg22 rfl 15 (by decide) kwX8_captureOf_4 rfl (v := .ref (g.1 12 15)) rfl dX8_captureOf_82 ?_
              refine lv_iload_n hx hb dX8_captureOf_85 rfl (lv_at hl 1 rfl) ?_
              refine g_iald X Y hG20 (hpr 12 (by decide)) (k := 15) (by decide) (j := ja) (show ja < 100 by omega) (v := τ.1 15 ja) rfl dX8_captureOf_86 ?_
              refine lv_goto (tgt := 95) hx hb dX8_captureOf_87 (by decide) ?_
              refine m_iret X Y hr hlocks (by decide) (by decide) ?_ dX8_captureOf_95
              have e8 : cofN τ ja jb = (nI (τ.1 15 ja)) := by unfold cofN; (repeat' split) <;> first | rfl | (exfalso; omega)
              exact MC_i (c := 0) (by (simp only [sp_captureOf, hva, ix_nI hla, hvb, ix_nI hlb, Bool.and_self, Bool.and_true, Bool.and_false, Bool.false_and, Bool.true_and, Bool.false_eq_true, reduceIte]; rw [e8]) <;> rfl) hG20
          · refine lv_aload_n hx hb dX8_captureOf_67 rfl (lv_at hl 0 rfl) ?_
            have hg23 := hG20.f11 (hpr 11 (by decide))
            refine m_get (ref := "CardPortModel") (C := RX8) (T := TX8) (N := 25) (ci := 9) X Y htX8_captureOf_wsX801 hg23 rfl 14 (by decide) kwX8_captureOf_3 rfl (v := .ref (g.1 12 14)) rfl dX8_captureOf_68 ?_
            refine lv_iload_n hx hb dX8_captureOf_71 rfl (lv_at hl 1 rfl) ?_
            refine g_iald X Y hG20 (hpr 12 (by decide)) (k := 14) (by decide) (j := ja) (show ja < 100 by omega) (v := τ.1 14 ja) rfl dX8_captureOf_72 ?_
            refine lv_goto (tgt := 95) hx hb dX8_captureOf_73 (by decide) ?_
            refine m_iret X Y hr hlocks (by decide) (by decide) ?_ dX8_captureOf_95
            have e8 : cofN τ ja jb = (nI (τ.1 14 ja)) := by unfold cofN; (repeat' split) <;> first | rfl | (exfalso; omega)
            exact MC_i (c := 0) (by (simp only [sp_captureOf, hva, ix_nI hla, hvb, ix_nI hlb, Bool.and_self, Bool.and_true, Bool.and_false, Bool.false_and, Bool.true_and, Bool.false_eq_true, reduceIte]; rw [e8]) <;> rfl) hG20
        · refine lv_aload_n hx hb dX8_captureOf_53 rfl (lv_at hl 0 rfl) ?_
          have hg24 := hG20.f11 (hpr 11 (by decide))
          refine m_get (ref := "CardPortModel") (C := RX8) (T := TX8) (N := 25) (ci := 9) X Y htX8_captureOf_wsX801 hg24 rfl 13 (by decide) kwX8_captureOf_2 rfl (v := .ref (g.1 12 13)) rfl dX8_captureOf_54 ?_
          refine lv_iload_n hx hb dX8_captureOf_57 rfl (lv_at hl 1 rfl) ?_
          refine g_iald X Y hG20 (hpr 12 (by decide)) (k := 13) (by decide) (j := ja) (show ja < 100 by omega) (v := τ.1 13 ja) rfl dX8_captureOf_58 ?_
          refine lv_goto (tgt := 95) hx hb dX8_captureOf_59 (by decide) ?_
          refine m_iret X Y hr hlocks (by decide) (by decide) ?_ dX8_captureOf_95
          have e8 : cofN τ ja jb = (nI (τ.1 13 ja)) := by unfold cofN; (repeat' split) <;> first | rfl | (exfalso; omega)
          exact MC_i (c := 0) (by (simp only [sp_captureOf, hva, ix_nI hla, hvb, ix_nI hlb, Bool.and_self, Bool.and_true, Bool.and_false, Bool.false_and, Bool.true_and, Bool.false_eq_true, reduceIte]; rw [e8]) <;> rfl) hG20
      · refine lv_aload_n hx hb dX8_captureOf_39 rfl (lv_at hl 0 rfl) ?_
        have hg25 := hG20.f11 (hpr 11 (by decide))
        refine m_get (ref := "CardPortModel") (C := RX8) (T := TX8) (N := 25) (ci := 9) X Y htX8_captureOf_wsX801 hg25 rfl 12 (by decide) kwX8_captureOf_1 rfl (v := .ref (g.1 12 12)) rfl dX8_captureOf_40 ?_
        refine lv_iload_n hx hb dX8_captureOf_43 rfl (lv_at hl 1 rfl) ?_
        refine g_iald X Y hG20 (hpr 12 (by decide)) (k := 12) (by decide) (j := ja) (show ja < 100 by omega) (v := τ.1 12 ja) rfl dX8_captureOf_44 ?_
        refine lv_goto (tgt := 95) hx hb dX8_captureOf_45 (by decide) ?_
        refine m_iret X Y hr hlocks (by decide) (by decide) ?_ dX8_captureOf_95
        have e8 : cofN τ ja jb = (nI (τ.1 12 ja)) := by unfold cofN; (repeat' split) <;> first | rfl | (exfalso; omega)
        exact MC_i (c := 0) (by (simp only [sp_captureOf, hva, ix_nI hla, hvb, ix_nI hlb, Bool.and_self, Bool.and_true, Bool.and_false, Bool.false_and, Bool.true_and, Bool.false_eq_true, reduceIte]; rw [e8]) <;> rfl) hG20
theorem kwX8_chargebackOf_1 : Cond.fieldLink RX8 136 "CardPortModel" "chargebacks" "I" ∈ wsX8_chargebackOf := List.mem_of_getElem? (i := 1) rfl
theorem htX8_chargebackOf_wsX801 : ∀ w ∈ wsX80, w ∈ wsX8_chargebackOf := fun _ h => List.mem_cons_of_mem _ (List.mem_append_right _ h)
theorem kwX8_chargebackOf_5 : Cond.fieldLink RX8 59 "CardPortModel" "until" "[I" ∈ wsX8_chargebackOf := List.mem_of_getElem? (i := 5) rfl
theorem kwX8_chargebackOf_4 : Cond.fieldLink RX8 56 "CardPortModel" "disputed" "[I" ∈ wsX8_chargebackOf := List.mem_of_getElem? (i := 4) rfl
theorem kwX8_chargebackOf_3 : Cond.fieldLink RX8 53 "CardPortModel" "capture" "[I" ∈ wsX8_chargebackOf := List.mem_of_getElem? (i := 3) rfl
theorem kwX8_chargebackOf_2 : Cond.fieldLink RX8 50 "CardPortModel" "state" "[I" ∈ wsX8_chargebackOf := List.mem_of_getElem? (i := 2) rfl
set_option maxHeartbeats 4000000 in
set_option maxRecDepth 100000 in
theorem c_X8_chargebackOf (l : Launch) (D : va_G) (kc : Nat → ClassId) (A : Nat → Prop) (e0 : Nat × Nat) (M : Mp) {pr : Nat → Prop} {σ τ : Sg} {th : Int32} {o : Int64} {g : Gh} {nn : Nat} (hG : G pr kc e0 σ τ th o g M) (hwf : WS nn τ) (hpr : ∀ t, t ≤ 13 → pr t) (a b : Int32) : Met l yX8_chargebackOf wsX8_chargebackOf ({ frames := 1, cells := 0, slots := 0, locals := 22 }) (mPre D kc A e0 M [.ref (g.1 11 0), .int a, .int b]) (va_Qi (MC pr kc e0 σ o g (sp_chargebackOf τ a b)) (mB D A) A) 0 0 A := by
  refine Met.ofW (cc := cX8_chargebackOf) (maxL := 3) (ret := (some .int)) (by decide) rfl ?_
  intro p e s m args below meth c s₁ B hml hv
  obtain ⟨rfl, hw, hK, hA, hcx⟩ := hv
  have X : mX p s m _ c cX8_chargebackOf 3 RX8 wsX8_chargebackOf D kc := ⟨⟨B.exec, B.bytes, hml, findClass_of_methodNamed B.named, atoms_spec (ws := wsX8_chargebackOf) B.pre⟩, hK⟩
  have hx := B.exec
  have hb := B.bytes
  have hr := B.returns
  have hlocks := B.notSynchronized
  have Y : mY D A M s s.heap [] := ⟨hw, va_S.rf⟩
  have hl := lv_entry ([.ref (g.1 11 0), .int a, .int b]) (n := 3) (Nat.le_of_ble_eq_true rfl)
  rw [lg_entry_eq]
  generalize (lg_sl ([.ref (g.1 11 0), .int a, .int b]) ++ List.replicate (3 - (lg_sl ([.ref (g.1 11 0), .int a, .int b])).length) Slot.unset).toArray = ls at hl ⊢
  have hl : lv_has ls 3 [(0, .ref (g.1 11 0)), (1, .int a), (2, .int b)] := hl
  have hwn := hwf.2.2.2.1
  have hwd := hwf.1
  cases hva : vI a (nB τ) with
  | false =>
    cases hvb : vI b 4 with
    | false =>
      refine lv_aload_n hx hb dX8_chargebackOf_0 rfl (lv_at hl 0 rfl) ?_
      refine lv_iload_n hx hb dX8_chargebackOf_1 rfl (lv_at hl 1 rfl) ?_
      refine n_iconst hx hb 0 dX8_chargebackOf_2 (by decide) ?_
      refine lv_aload_n hx hb dX8_chargebackOf_3 rfl (lv_at hl 0 rfl) ?_
      have hg1 := hG.f11 (hpr 11 (by decide))
      refine m_get (ref := "CardPortModel") (C := RX8) (T := TX8) (N := 25) (ci := 9) X Y htX8_chargebackOf_wsX801 hg1 rfl 16 (by decide) kwX8_chargebackOf_1 rfl (v := .int (nI (nB τ))) rfl dX8_chargebackOf_4 ?_
      refine n_iconst hx hb 1 dX8_chargebackOf_7 (by decide) ?_
      refine lv_isub hx hb dX8_chargebackOf_8 ?_
      refine m_rSi (As := [.int a, .int (nI 0), .int ((nI (nB τ)) - (nI 1))]) (rest := [.ref (g.1 11 0)]) X Y hA hcx (c_m_isIn l D kc A e0 M a 0 ((nI (nB τ)) - (nI 1))) (va_cwS 3 X.1.2.2.2.2 gX8_chargebackOf_X8_isIn rfl rfl rfl (by decide +kernel) ⟨Nat.le_of_ble_eq_true rfl, Nat.le_of_ble_eq_true rfl⟩) rfl rfl hl.1 (Nat.le_of_ble_eq_true rfl) dX8_chargebackOf_9 ⟨by decide, by decide⟩ (fun H locs Y => ?_)
      refine n_top (bN_c (isIn_vI (by omega))) ?_
      refine n_top (bN_f (by rw [hva]; decide)) ?_
      refine n_if_ne hx hb 19 (by omega) dX8_chargebackOf_12 (by decide) (fun zq => absurd zq (by decide)) (fun _ => ?_)
      refine n_iconst hx hb 1 dX8_chargebackOf_15 (by decide) ?_
      refine lv_goto (tgt := 33) hx hb dX8_chargebackOf_16 (by decide) ?_
      refine m_Vi (As := [.int (nI 1)]) (rest := []) X Y hA hcx (c_m_fails l D kc A e0 M hG hwf hpr 1 (by decide)) (cwV 1 X.1.2.2.2.2 gX8_chargebackOf_X8_fails rfl rfl rfl (by decide +kernel) ⟨Nat.le_of_ble_eq_true rfl, Nat.le_of_ble_eq_true rfl⟩) hg1 rfl rfl rfl hl.1 (Nat.le_of_ble_eq_true rfl) dX8_chargebackOf_33 ⟨by decide, by decide⟩ (fun r2 M3 H locs p4 Y => ?_)
      obtain ⟨hr9, hG5⟩ := p4
      refine n_top (hr9.trans (bN_t (by decide))) ?_
      refine n_if_eq hx hb 41 (by omega) dX8_chargebackOf_36 (by decide) (fun zq => absurd zq (by decide)) (fun _ => ?_)
      refine n_iconst hx hb 0 dX8_chargebackOf_39 (by decide) ?_
      refine m_iret X Y hr hlocks (by decide) (by decide) ?_ dX8_chargebackOf_40
      exact MC_i (c := 1) (by (simp only [sp_chargebackOf, hva, hvb, Bool.and_self, Bool.and_true, Bool.and_false, Bool.false_and, Bool.true_and, Bool.false_eq_true, reduceIte]) <;> rfl) hG5
    | true =>
      obtain ⟨jb, hjb, hlb, rfl⟩ := vI_t hvb
      refine lv_aload_n hx hb dX8_chargebackOf_0 rfl (lv_at hl 0 rfl) ?_
      refine lv_iload_n hx hb dX8_chargebackOf_1 rfl (lv_at hl 1 rfl) ?_
      refine n_iconst hx hb 0 dX8_chargebackOf_2 (by decide) ?_
      refine lv_aload_n hx hb dX8_chargebackOf_3 rfl (lv_at hl 0 rfl) ?_
      have hg6 := hG.f11 (hpr 11 (by decide))
      refine m_get (ref := "CardPortModel") (C := RX8) (T := TX8) (N := 25) (ci := 9) X Y htX8_chargebackOf_wsX801 hg6 rfl 16 (by decide) kwX8_chargebackOf_1 rfl (v := .int (nI (nB τ))) rfl dX8_chargebackOf_4 ?_
      refine n_iconst hx hb 1 dX8_chargebackOf_7 (by decide) ?_
      refine lv_isub hx hb dX8_chargebackOf_8 ?_
      refine m_rSi (As := [.int a, .int (nI 0), .int ((nI (nB τ)) - (nI 1))]) (rest := [.ref (g.1 11 0)]) X Y hA hcx (c_m_isIn l D kc A e0 M a 0 ((nI (nB τ)) - (nI 1))) (va_cwS 3 X.1.2.2.2.2 gX8_chargebackOf_X8_isIn rfl rfl rfl (by decide +kernel) ⟨Nat.le_of_ble_eq_true rfl, Nat.le_of_ble_eq_true rfl⟩) rfl rfl hl.1 (Nat.le_of_ble_eq_true rfl) dX8_chargebackOf_9 ⟨by decide, by decide⟩ (fun H locs Y => ?_)
      refine n_top (bN_c (isIn_vI (by omega))) ?_
      refine n_top (bN_f (by rw [hva]; decide)) ?_
      refine n_if_ne hx hb 19 (by omega) dX8_chargebackOf_12 (by decide) (fun zq => absurd zq (by decide)) (fun _ => ?_)
      refine n_iconst hx hb 1 dX8_chargebackOf_15 (by decide) ?_
      refine lv_goto (tgt := 33) hx hb dX8_chargebackOf_16 (by decide) ?_
      refine m_Vi (As := [.int (nI 1)]) (rest := []) X Y hA hcx (c_m_fails l D kc A e0 M hG hwf hpr 1 (by decide)) (cwV 1 X.1.2.2.2.2 gX8_chargebackOf_X8_fails rfl rfl rfl (by decide +kernel) ⟨Nat.le_of_ble_eq_true rfl, Nat.le_of_ble_eq_true rfl⟩) hg6 rfl rfl rfl hl.1 (Nat.le_of_ble_eq_true rfl) dX8_chargebackOf_33 ⟨by decide, by decide⟩ (fun r7 M8 H locs p9 Y => ?_)
      obtain ⟨hr9, hG10⟩ := p9
      refine n_top (hr9.trans (bN_t (by decide))) ?_
      refine n_if_eq hx hb 41 (by omega) dX8_chargebackOf_36 (by decide) (fun zq => absurd zq (by decide)) (fun _ => ?_)
      refine n_iconst hx hb 0 dX8_chargebackOf_39 (by decide) ?_
      refine m_iret X Y hr hlocks (by decide) (by decide) ?_ dX8_chargebackOf_40
      exact MC_i (c := 1) (by (simp only [sp_chargebackOf, hva, hvb, ix_nI hlb, Bool.and_self, Bool.and_true, Bool.and_false, Bool.false_and, Bool.true_and, Bool.false_eq_true, reduceIte]) <;> rfl) hG10
  | true =>
    obtain ⟨ja, hja, hla, rfl⟩ := vI_t hva
    cases hvb : vI b 4 with
    | false =>
      refine lv_aload_n hx hb dX8_chargebackOf_0 rfl (lv_at hl 0 rfl) ?_
      refine lv_iload_n hx hb dX8_chargebackOf_1 rfl (lv_at hl 1 rfl) ?_
      refine n_iconst hx hb 0 dX8_chargebackOf_2 (by decide) ?_
      refine lv_aload_n hx hb dX8_chargebackOf_3 rfl (lv_at hl 0 rfl) ?_
      have hg11 := hG.f11 (hpr 11 (by decide))
      refine m_get (ref := "CardPortModel") (C := RX8) (T := TX8) (N := 25) (ci := 9) X Y htX8_chargebackOf_wsX801 hg11 rfl 16 (by decide) kwX8_chargebackOf_1 rfl (v := .int (nI (nB τ))) rfl dX8_chargebackOf_4 ?_
      refine n_iconst hx hb 1 dX8_chargebackOf_7 (by decide) ?_
      refine lv_isub hx hb dX8_chargebackOf_8 ?_
      refine m_rSi (As := [.int (nI ja), .int (nI 0), .int ((nI (nB τ)) - (nI 1))]) (rest := [.ref (g.1 11 0)]) X Y hA hcx (c_m_isIn l D kc A e0 M (nI ja) 0 ((nI (nB τ)) - (nI 1))) (va_cwS 3 X.1.2.2.2.2 gX8_chargebackOf_X8_isIn rfl rfl rfl (by decide +kernel) ⟨Nat.le_of_ble_eq_true rfl, Nat.le_of_ble_eq_true rfl⟩) rfl rfl hl.1 (Nat.le_of_ble_eq_true rfl) dX8_chargebackOf_9 ⟨by decide, by decide⟩ (fun H locs Y => ?_)
      refine n_top (bN_c (isIn_vI (by omega))) ?_
      refine n_top (bN_t hva) ?_
      refine n_if_ne hx hb 19 (by omega) dX8_chargebackOf_12 (by decide) (fun _ => ?_) (fun zq => absurd zq (by decide))
      refine lv_iload_n hx hb dX8_chargebackOf_19 rfl (lv_at hl 2 rfl) ?_
      refine n_iconst hx hb 0 dX8_chargebackOf_20 (by decide) ?_
      refine n_iconst hx hb 3 dX8_chargebackOf_21 (by decide) ?_
      refine m_rSi (As := [.int b, .int (nI 0), .int (nI 3)]) (rest := [.ref (g.1 11 0)]) X Y hA hcx (c_m_isIn l D kc A e0 M b 0 (nI 3)) (va_cwS 3 X.1.2.2.2.2 gX8_chargebackOf_X8_isIn rfl rfl rfl (by decide +kernel) ⟨Nat.le_of_ble_eq_true rfl, Nat.le_of_ble_eq_true rfl⟩) rfl rfl hl.1 (Nat.le_of_ble_eq_true rfl) dX8_chargebackOf_22 ⟨by decide, by decide⟩ (fun H locs Y => ?_)
      refine n_top (bN_c (isIn_vI2 (by decide))) ?_
      refine n_top (bN_f (by rw [hvb]; decide)) ?_
      refine n_if_eq hx hb 32 (by omega) dX8_chargebackOf_25 (by decide) (fun _ => ?_) (fun zq => absurd zq (by decide))
      refine n_iconst hx hb 2 dX8_chargebackOf_32 (by decide) ?_
      refine m_Vi (As := [.int (nI 2)]) (rest := []) X Y hA hcx (c_m_fails l D kc A e0 M hG hwf hpr 2 (by decide)) (cwV 1 X.1.2.2.2.2 gX8_chargebackOf_X8_fails rfl rfl rfl (by decide +kernel) ⟨Nat.le_of_ble_eq_true rfl, Nat.le_of_ble_eq_true rfl⟩) hg11 rfl rfl rfl hl.1 (Nat.le_of_ble_eq_true rfl) dX8_chargebackOf_33 ⟨by decide, by decide⟩ (fun r12 M13 H locs p14 Y => ?_)
      obtain ⟨hr9, hG15⟩ := p14
      refine n_top (hr9.trans (bN_t (by decide))) ?_
      refine n_if_eq hx hb 41 (by omega) dX8_chargebackOf_36 (by decide) (fun zq => absurd zq (by decide)) (fun _ => ?_)
      refine n_iconst hx hb 0 dX8_chargebackOf_39 (by decide) ?_
      refine m_iret X Y hr hlocks (by decide) (by decide) ?_ dX8_chargebackOf_40
      exact MC_i (c := 2) (by (simp only [sp_chargebackOf, hva, ix_nI hla, hvb, Bool.and_self, Bool.and_true, Bool.and_false, Bool.false_and, Bool.true_and, Bool.false_eq_true, reduceIte]) <;> rfl) hG15
    | true =>
      obtain ⟨jb, hjb, hlb, rfl⟩ := vI_t hvb
      refine lv_aload_n hx hb dX8_chargebackOf_0 rfl (lv_at hl 0 rfl) ?_
      refine lv_iload_n hx hb dX8_chargebackOf_1 rfl (lv_at hl 1 rfl) ?_
      refine n_iconst hx hb 0 dX8_chargebackOf_2 (by decide) ?_
      refine lv_aload_n hx hb dX8_chargebackOf_3 rfl (lv_at hl 0 rfl) ?_
      have hg16 := hG.f11 (hpr 11 (by decide))
      refine m_get (ref := "CardPortModel") (C := RX8) (T := TX8) (N := 25) (ci := 9) X Y htX8_chargebackOf_wsX801 hg16 rfl 16 (by decide) kwX8_chargebackOf_1 rfl (v := .int (nI (nB τ))) rfl dX8_chargebackOf_4 ?_
      refine n_iconst hx hb 1 dX8_chargebackOf_7 (by decide) ?_
      refine lv_isub hx hb dX8_chargebackOf_8 ?_
      refine m_rSi (As := [.int (nI ja), .int (nI 0), .int ((nI (nB τ)) - (nI 1))]) (rest := [.ref (g.1 11 0)]) X Y hA hcx (c_m_isIn l D kc A e0 M (nI ja) 0 ((nI (nB τ)) - (nI 1))) (va_cwS 3 X.1.2.2.2.2 gX8_chargebackOf_X8_isIn rfl rfl rfl (by decide +kernel) ⟨Nat.le_of_ble_eq_true rfl, Nat.le_of_ble_eq_true rfl⟩) rfl rfl hl.1 (Nat.le_of_ble_eq_true rfl) dX8_chargebackOf_9 ⟨by decide, by decide⟩ (fun H locs Y => ?_)
      refine n_top (bN_c (isIn_vI (by omega))) ?_
      refine n_top (bN_t hva) ?_
      refine n_if_ne hx hb 19 (by omega) dX8_chargebackOf_12 (by decide) (fun _ => ?_) (fun zq => absurd zq (by decide))
      refine lv_iload_n hx hb dX8_chargebackOf_19 rfl (lv_at hl 2 rfl) ?_
      refine n_iconst hx hb 0 dX8_chargebackOf_20 (by decide) ?_
      refine n_iconst hx hb 3 dX8_chargebackOf_21 (by decide) ?_
      refine m_rSi (As := [.int (nI jb), .int (nI 0), .int (nI 3)]) (rest := [.ref (g.1 11 0)]) X Y hA hcx (c_m_isIn l D kc A e0 M (nI jb) 0 (nI 3)) (va_cwS 3 X.1.2.2.2.2 gX8_chargebackOf_X8_isIn rfl rfl rfl (by decide +kernel) ⟨Nat.le_of_ble_eq_true rfl, Nat.le_of_ble_eq_true rfl⟩) rfl rfl hl.1 (Nat.le_of_ble_eq_true rfl) dX8_chargebackOf_22 ⟨by decide, by decide⟩ (fun H locs Y => ?_)
      refine n_top (bN_c (isIn_vI2 (by decide))) ?_
      refine n_top (bN_t hvb) ?_
      refine n_if_eq hx hb 32 (by omega) dX8_chargebackOf_25 (by decide) (fun zq => absurd zq (by decide)) (fun _ => ?_)
      refine n_iconst hx hb 0 dX8_chargebackOf_28 (by decide) ?_
      refine lv_goto (tgt := 33) hx hb dX8_chargebackOf_29 (by decide) ?_
      refine m_Vi (As := [.int (nI 0)]) (rest := []) X Y hA hcx (c_m_fails l D kc A e0 M hG hwf hpr 0 (by decide)) (cwV 1 X.1.2.2.2.2 gX8_chargebackOf_X8_fails rfl rfl rfl (by decide +kernel) ⟨Nat.le_of_ble_eq_true rfl, Nat.le_of_ble_eq_true rfl⟩) hg16 rfl rfl rfl hl.1 (Nat.le_of_ble_eq_true rfl) dX8_chargebackOf_33 ⟨by decide, by decide⟩ (fun r17 M18 H locs p19 Y => ?_)
      obtain ⟨hr9, hG20⟩ := p19
      refine n_top (hr9.trans (bN_f (by decide))) ?_
      refine n_if_eq hx hb 41 (by omega) dX8_chargebackOf_36 (by decide) (fun _ => ?_) (fun zq => absurd zq (by decide))
      have hw9 := hwf.2.2.2.2.2.2.2.2 _ hja
      refine lv_iload_n hx hb dX8_chargebackOf_41 rfl (lv_at hl 2 rfl) ?_
      refine n_if_ne hx hb 54 (by omega) dX8_chargebackOf_42 (by decide) (fun c42 => ?_) (fun c42 => ?_)
      · refine lv_iload_n hx hb dX8_chargebackOf_54 rfl (lv_at hl 2 rfl) ?_
        refine n_iconst hx hb 1 dX8_chargebackOf_55 (by decide) ?_
        refine n_icmp_ne hx hb 68 (by omega) (by omega) dX8_chargebackOf_56 (by decide) (fun c56 => ?_) (fun c56 => ?_)
        · refine lv_iload_n hx hb dX8_chargebackOf_68 rfl (lv_at hl 2 rfl) ?_
          refine n_iconst hx hb 2 dX8_chargebackOf_69 (by decide) ?_
          refine n_icmp_ne hx hb 82 (by omega) (by omega) dX8_chargebackOf_70 (by decide) (fun c70 => ?_) (fun c70 => ?_)
          · refine lv_aload_n hx hb dX8_chargebackOf_82 rfl (lv_at hl 0 rfl) ?_
            refine lv_iload_n hx hb dX8_chargebackOf_83 rfl (lv_at hl 1 rfl) ?_
            have hg21 := hG20.f11 (hpr 11 (by decide))
            refine m_rVi (As := [.int (nI ja)]) (rest := []) X Y hA hcx (c_m_isDue l D kc A e0 M18 hG20 hwf hpr ja hja) (cwV 1 X.1.2.2.2.2 gX8_chargebackOf_X8_isDue rfl rfl rfl (by decide +kernel) ⟨Nat.le_of_ble_eq_true rfl, Nat.le_of_ble_eq_true rfl⟩) hg21 rfl rfl rfl hl.1 (Nat.le_of_ble_eq_true rfl) dX8_chargebackOf_84 ⟨by decide, by decide⟩ (fun H locs Y => ?_)
            by_cases hdu : τ.1 17 ja ≤ 1
            · refine n_top (bN_t hdu) ?_
              refine n_if_eq hx hb 99 (by omega) dX8_chargebackOf_87 (by decide) (fun zq => absurd zq (by decide)) (fun _ => ?_)
              refine lv_aload_n hx hb dX8_chargebackOf_90 rfl (lv_at hl 0 rfl) ?_
              refine m_get (ref := "CardPortModel") (C := RX8) (T := TX8) (N := 25) (ci := 9) X Y htX8_chargebackOf_wsX801 hg21 rfl 20 (by decide) kwX8_chargebackOf_5 rfl (v := .ref (g.1 12 20)) rfl dX8_chargebackOf_91 ?_
              refine lv_iload_n hx hb dX8_chargebackOf_94 rfl (lv_at hl 1 rfl) ?_
              refine g_iald X Y hG20 (hpr 12 (by decide)) (k := 20) (by decide) (j := ja) (show ja < 60 by omega) (v := τ.1 20 ja) rfl dX8_chargebackOf_95 ?_
              refine lv_goto (tgt := 100) hx hb dX8_chargebackOf_96 (by decide) ?_
              refine m_iret X Y hr hlocks (by decide) (by decide) ?_ dX8_chargebackOf_100
              have e8 : bofN τ ja jb = (nI (τ.1 20 ja)) := by unfold bofN cbl; (repeat' split) <;> first | rfl | (exfalso; omega)
              exact MC_i (c := 0) (by (simp only [sp_chargebackOf, hva, ix_nI hla, hvb, ix_nI hlb, Bool.and_self, Bool.and_true, Bool.and_false, Bool.false_and, Bool.true_and, Bool.false_eq_true, reduceIte]; rw [e8]) <;> rfl) hG20
            · refine n_top (bN_f hdu) ?_
              refine n_if_eq hx hb 99 (by omega) dX8_chargebackOf_87 (by decide) (fun _ => ?_) (fun zq => absurd zq (by decide))
              refine lv_iconst (v := -1) hx hb dX8_chargebackOf_99 (by decide) ?_
              refine m_iret X Y hr hlocks (by decide) (by decide) ?_ dX8_chargebackOf_100
              have e8 : bofN τ ja jb = (-1) := by unfold bofN cbl; (repeat' split) <;> first | rfl | (exfalso; omega)
              exact MC_i (c := 0) (by (simp only [sp_chargebackOf, hva, ix_nI hla, hvb, ix_nI hlb, Bool.and_self, Bool.and_true, Bool.and_false, Bool.false_and, Bool.true_and, Bool.false_eq_true, reduceIte]; rw [e8]) <;> rfl) hG20
          · refine lv_aload_n hx hb dX8_chargebackOf_73 rfl (lv_at hl 0 rfl) ?_
            have hg22 := hG20.f11 (hpr 11 (by decide))
            refine m_get (ref := "CardPortModel") (C := RX8) (T := TX8) (N := 25) (ci := 9) X Y htX8_chargebackOf_wsX801 hg22 rfl 19 (by decide) kwX8_chargebackOf_4 rfl (v := .ref (g.1 12 19)) rfl dX8_chargebackOf_74 ?_
            refine lv_iload_n hx hb dX8_chargebackOf_77 rfl (lv_at hl 1 rfl) ?_
            refine g_iald X Y hG20 (hpr 12 (by decide)) (k := 19) (by decide) (j := ja) (show ja < 60 by omega) (v := τ.1 19 ja) rfl dX8_chargebackOf_78 ?_
            refine lv_goto (tgt := 100) hx hb dX8_chargebackOf_79 (by decide) ?_
            refine m_iret X Y hr hlocks (by decide) (by decide) ?_ dX8_chargebackOf_100
            have e8 : bofN τ ja jb = (nI (τ.1 19 ja)) := by unfold bofN cbl; (repeat' split) <;> first | rfl | (exfalso; omega)
            exact MC_i (c := 0) (by (simp only [sp_chargebackOf, hva, ix_nI hla, hvb, ix_nI hlb, Bool.and_self, Bool.and_true, Bool.and_false, Bool.false_and, Bool.true_and, Bool.false_eq_true, reduceIte]; rw [e8]) <;> rfl) hG20
        · refine lv_aload_n hx hb dX8_chargebackOf_59 rfl (lv_at hl 0 rfl) ?_
          have hg23 := hG20.f11 (hpr 11 (by decide))
          refine m_get (ref := "CardPortModel") (C := RX8) (T := TX8) (N := 25) (ci := 9) X Y htX8_chargebackOf_wsX801 hg23 rfl 18 (by decide) kwX8_chargebackOf_3 rfl (v := .ref (g.1 12 18)) rfl dX8_chargebackOf_60 ?_
          refine lv_iload_n hx hb dX8_chargebackOf_63 rfl (lv_at hl 1 rfl) ?_
          refine g_iald X Y hG20 (hpr 12 (by decide)) (k := 18) (by decide) (j := ja) (show ja < 60 by omega) (v := τ.1 18 ja) rfl dX8_chargebackOf_64 ?_
          refine lv_goto (tgt := 100) hx hb dX8_chargebackOf_65 (by decide) ?_
          refine m_iret X Y hr hlocks (by decide) (by decide) ?_ dX8_chargebackOf_100
          have e8 : bofN τ ja jb = (nI (τ.1 18 ja)) := by unfold bofN cbl; (repeat' split) <;> first | rfl | (exfalso; omega)
          exact MC_i (c := 0) (by (simp only [sp_chargebackOf, hva, ix_nI hla, hvb, ix_nI hlb, Bool.and_self, Bool.and_true, Bool.and_false, Bool.false_and, Bool.true_and, Bool.false_eq_true, reduceIte]; rw [e8]) <;> rfl) hG20
      · refine lv_aload_n hx hb dX8_chargebackOf_45 rfl (lv_at hl 0 rfl) ?_
        have hg24 := hG20.f11 (hpr 11 (by decide))
        refine m_get (ref := "CardPortModel") (C := RX8) (T := TX8) (N := 25) (ci := 9) X Y htX8_chargebackOf_wsX801 hg24 rfl 17 (by decide) kwX8_chargebackOf_2 rfl (v := .ref (g.1 12 17)) rfl dX8_chargebackOf_46 ?_
        refine lv_iload_n hx hb dX8_chargebackOf_49 rfl (lv_at hl 1 rfl) ?_
        refine g_iald X Y hG20 (hpr 12 (by decide)) (k := 17) (by decide) (j := ja) (show ja < 60 by omega) (v := τ.1 17 ja) rfl dX8_chargebackOf_50 ?_
        refine lv_goto (tgt := 100) hx hb dX8_chargebackOf_51 (by decide) ?_
        refine m_iret X Y hr hlocks (by decide) (by decide) ?_ dX8_chargebackOf_100
        have e8 : bofN τ ja jb = (nI (τ.1 17 ja)) := by unfold bofN cbl; (repeat' split) <;> first | rfl | (exfalso; omega)
        exact MC_i (c := 0) (by (simp only [sp_chargebackOf, hva, ix_nI hla, hvb, ix_nI hlb, Bool.and_self, Bool.and_true, Bool.and_false, Bool.false_and, Bool.true_and, Bool.false_eq_true, reduceIte]; rw [e8]) <;> rfl) hG20
theorem kwX8_paymentOf_1 : Cond.fieldLink RX8 19 "CardPortModel" "card" "[I" ∈ wsX8_paymentOf := List.mem_of_getElem? (i := 1) rfl
theorem htX8_paymentOf_wsX801 : ∀ w ∈ wsX80, w ∈ wsX8_paymentOf := fun _ h => List.mem_cons_of_mem _ (List.mem_append_right _ h)
theorem kwX8_paymentOf_2 : Cond.fieldLink RX8 22 "CardPortModel" "shop" "[I" ∈ wsX8_paymentOf := List.mem_of_getElem? (i := 2) rfl
theorem kwX8_paymentOf_3 : Cond.fieldLink RX8 25 "CardPortModel" "amount" "[I" ∈ wsX8_paymentOf := List.mem_of_getElem? (i := 3) rfl
theorem kwX8_paymentOf_4 : Cond.fieldLink RX8 28 "CardPortModel" "captured" "[I" ∈ wsX8_paymentOf := List.mem_of_getElem? (i := 4) rfl
theorem kwX8_paymentOf_5 : Cond.fieldLink RX8 31 "CardPortModel" "last" "[I" ∈ wsX8_paymentOf := List.mem_of_getElem? (i := 5) rfl
set_option maxHeartbeats 4000000 in
set_option maxRecDepth 100000 in
theorem c_X8_paymentOf (l : Launch) (D : va_G) (kc : Nat → ClassId) (A : Nat → Prop) (e0 : Nat × Nat) (M : Mp) {pr : Nat → Prop} {σ τ : Sg} {th : Int32} {o : Int64} {g : Gh} {nn : Nat} (hG : G pr kc e0 σ τ th o g M) (hwf : WS nn τ) (hpr : ∀ t, t ≤ 13 → pr t) (a b : Int32) : Met l yX8_paymentOf wsX8_paymentOf ({ frames := 2, cells := 0, slots := 0, locals := 43 }) (mPre D kc A e0 M [.ref (g.1 11 0), .int a, .int b]) (va_Qi (MC pr kc e0 σ o g (sp_paymentOf τ a b)) (mB D A) A) 0 0 A := by
  refine Met.ofW (cc := cX8_paymentOf) (maxL := 3) (ret := (some .int)) (by decide) rfl ?_
  intro p e s m args below meth c s₁ B hml hv
  obtain ⟨rfl, hw, hK, hA, hcx⟩ := hv
  have X : mX p s m _ c cX8_paymentOf 3 RX8 wsX8_paymentOf D kc := ⟨⟨B.exec, B.bytes, hml, findClass_of_methodNamed B.named, atoms_spec (ws := wsX8_paymentOf) B.pre⟩, hK⟩
  have hx := B.exec
  have hb := B.bytes
  have hr := B.returns
  have hlocks := B.notSynchronized
  have Y : mY D A M s s.heap [] := ⟨hw, va_S.rf⟩
  have hl := lv_entry ([.ref (g.1 11 0), .int a, .int b]) (n := 3) (Nat.le_of_ble_eq_true rfl)
  rw [lg_entry_eq]
  generalize (lg_sl ([.ref (g.1 11 0), .int a, .int b]) ++ List.replicate (3 - (lg_sl ([.ref (g.1 11 0), .int a, .int b])).length) Slot.unset).toArray = ls at hl ⊢
  have hl : lv_has ls 3 [(0, .ref (g.1 11 0)), (1, .int a), (2, .int b)] := hl
  have hwn := hwf.2.2.2.1
  have hwd := hwf.1
  cases hva : vI a (nP τ) with
  | false =>
    cases hvb : vI b 6 with
    | false =>
      refine lv_aload_n hx hb dX8_paymentOf_0 rfl (lv_at hl 0 rfl) ?_
      refine lv_aload_n hx hb dX8_paymentOf_1 rfl (lv_at hl 0 rfl) ?_
      refine lv_iload_n hx hb dX8_paymentOf_2 rfl (lv_at hl 1 rfl) ?_
      have hg1 := hG.f11 (hpr 11 (by decide))
      refine m_rVi (As := [.int a]) (rest := [.ref (g.1 11 0)]) X Y hA hcx (c_m_isPayment l D kc A e0 M hG hwf hpr a) (cwV 1 X.1.2.2.2.2 gX8_paymentOf_X8_isPayment rfl rfl rfl (by decide +kernel) ⟨Nat.le_of_ble_eq_true rfl, Nat.le_of_ble_eq_true rfl⟩) hg1 rfl rfl rfl hl.1 (Nat.le_of_ble_eq_true rfl) dX8_paymentOf_3 ⟨by decide, by decide⟩ (fun H locs Y => ?_)
      refine n_top (bN_f (by rw [hva]; decide)) ?_
      refine n_if_ne hx hb 13 (by omega) dX8_paymentOf_6 (by decide) (fun zq => absurd zq (by decide)) (fun _ => ?_)
      refine n_iconst hx hb 1 dX8_paymentOf_9 (by decide) ?_
      refine lv_goto (tgt := 27) hx hb dX8_paymentOf_10 (by decide) ?_
      refine m_Vi (As := [.int (nI 1)]) (rest := []) X Y hA hcx (c_m_fails l D kc A e0 M hG hwf hpr 1 (by decide)) (cwV 1 X.1.2.2.2.2 gX8_paymentOf_X8_fails rfl rfl rfl (by decide +kernel) ⟨Nat.le_of_ble_eq_true rfl, Nat.le_of_ble_eq_true rfl⟩) hg1 rfl rfl rfl hl.1 (Nat.le_of_ble_eq_true rfl) dX8_paymentOf_27 ⟨by decide, by decide⟩ (fun r2 M3 H locs p4 Y => ?_)
      obtain ⟨hr9, hG5⟩ := p4
      refine n_top (hr9.trans (bN_t (by decide))) ?_
      refine n_if_eq hx hb 35 (by omega) dX8_paymentOf_30 (by decide) (fun zq => absurd zq (by decide)) (fun _ => ?_)
      refine n_iconst hx hb 0 dX8_paymentOf_33 (by decide) ?_
      refine m_iret X Y hr hlocks (by decide) (by decide) ?_ dX8_paymentOf_34
      exact MC_i (c := 1) (by (simp only [sp_paymentOf, hva, hvb, Bool.and_self, Bool.and_true, Bool.and_false, Bool.false_and, Bool.true_and, Bool.false_eq_true, reduceIte]) <;> rfl) hG5
    | true =>
      obtain ⟨jb, hjb, hlb, rfl⟩ := vI_t hvb
      refine lv_aload_n hx hb dX8_paymentOf_0 rfl (lv_at hl 0 rfl) ?_
      refine lv_aload_n hx hb dX8_paymentOf_1 rfl (lv_at hl 0 rfl) ?_
      refine lv_iload_n hx hb dX8_paymentOf_2 rfl (lv_at hl 1 rfl) ?_
      have hg6 := hG.f11 (hpr 11 (by decide))
      refine m_rVi (As := [.int a]) (rest := [.ref (g.1 11 0)]) X Y hA hcx (c_m_isPayment l D kc A e0 M hG hwf hpr a) (cwV 1 X.1.2.2.2.2 gX8_paymentOf_X8_isPayment rfl rfl rfl (by decide +kernel) ⟨Nat.le_of_ble_eq_true rfl, Nat.le_of_ble_eq_true rfl⟩) hg6 rfl rfl rfl hl.1 (Nat.le_of_ble_eq_true rfl) dX8_paymentOf_3 ⟨by decide, by decide⟩ (fun H locs Y => ?_)
      refine n_top (bN_f (by rw [hva]; decide)) ?_
      refine n_if_ne hx hb 13 (by omega) dX8_paymentOf_6 (by decide) (fun zq => absurd zq (by decide)) (fun _ => ?_)
      refine n_iconst hx hb 1 dX8_paymentOf_9 (by decide) ?_
      refine lv_goto (tgt := 27) hx hb dX8_paymentOf_10 (by decide) ?_
      refine m_Vi (As := [.int (nI 1)]) (rest := []) X Y hA hcx (c_m_fails l D kc A e0 M hG hwf hpr 1 (by decide)) (cwV 1 X.1.2.2.2.2 gX8_paymentOf_X8_fails rfl rfl rfl (by decide +kernel) ⟨Nat.le_of_ble_eq_true rfl, Nat.le_of_ble_eq_true rfl⟩) hg6 rfl rfl rfl hl.1 (Nat.le_of_ble_eq_true rfl) dX8_paymentOf_27 ⟨by decide, by decide⟩ (fun r7 M8 H locs p9 Y => ?_)
      obtain ⟨hr9, hG10⟩ := p9
      refine n_top (hr9.trans (bN_t (by decide))) ?_
      refine n_if_eq hx hb 35 (by omega) dX8_paymentOf_30 (by decide) (fun zq => absurd zq (by decide)) (fun _ => ?_)
      refine n_iconst hx hb 0 dX8_paymentOf_33 (by decide) ?_
      refine m_iret X Y hr hlocks (by decide) (by decide) ?_ dX8_paymentOf_34
      exact MC_i (c := 1) (by (simp only [sp_paymentOf, hva, hvb, ix_nI hlb, Bool.and_self, Bool.and_true, Bool.and_false, Bool.false_and, Bool.true_and, Bool.false_eq_true, reduceIte]) <;> rfl) hG10
  | true =>
    obtain ⟨ja, hja, hla, rfl⟩ := vI_t hva
    cases hvb : vI b 6 with
    | false =>
      refine lv_aload_n hx hb dX8_paymentOf_0 rfl (lv_at hl 0 rfl) ?_
      refine lv_aload_n hx hb dX8_paymentOf_1 rfl (lv_at hl 0 rfl) ?_
      refine lv_iload_n hx hb dX8_paymentOf_2 rfl (lv_at hl 1 rfl) ?_
      have hg11 := hG.f11 (hpr 11 (by decide))
      refine m_rVi (As := [.int (nI ja)]) (rest := [.ref (g.1 11 0)]) X Y hA hcx (c_m_isPayment l D kc A e0 M hG hwf hpr (nI ja)) (cwV 1 X.1.2.2.2.2 gX8_paymentOf_X8_isPayment rfl rfl rfl (by decide +kernel) ⟨Nat.le_of_ble_eq_true rfl, Nat.le_of_ble_eq_true rfl⟩) hg11 rfl rfl rfl hl.1 (Nat.le_of_ble_eq_true rfl) dX8_paymentOf_3 ⟨by decide, by decide⟩ (fun H locs Y => ?_)
      refine n_top (bN_t hva) ?_
      refine n_if_ne hx hb 13 (by omega) dX8_paymentOf_6 (by decide) (fun _ => ?_) (fun zq => absurd zq (by decide))
      refine lv_iload_n hx hb dX8_paymentOf_13 rfl (lv_at hl 2 rfl) ?_
      refine n_iconst hx hb 0 dX8_paymentOf_14 (by decide) ?_
      refine n_iconst hx hb 5 dX8_paymentOf_15 (by decide) ?_
      refine m_rSi (As := [.int b, .int (nI 0), .int (nI 5)]) (rest := [.ref (g.1 11 0)]) X Y hA hcx (c_m_isIn l D kc A e0 M b 0 (nI 5)) (va_cwS 3 X.1.2.2.2.2 gX8_paymentOf_X8_isIn rfl rfl rfl (by decide +kernel) ⟨Nat.le_of_ble_eq_true rfl, Nat.le_of_ble_eq_true rfl⟩) rfl rfl hl.1 (Nat.le_of_ble_eq_true rfl) dX8_paymentOf_16 ⟨by decide, by decide⟩ (fun H locs Y => ?_)
      refine n_top (bN_c (isIn_vI2 (by decide))) ?_
      refine n_top (bN_f (by rw [hvb]; decide)) ?_
      refine n_if_eq hx hb 26 (by omega) dX8_paymentOf_19 (by decide) (fun _ => ?_) (fun zq => absurd zq (by decide))
      refine n_iconst hx hb 2 dX8_paymentOf_26 (by decide) ?_
      refine m_Vi (As := [.int (nI 2)]) (rest := []) X Y hA hcx (c_m_fails l D kc A e0 M hG hwf hpr 2 (by decide)) (cwV 1 X.1.2.2.2.2 gX8_paymentOf_X8_fails rfl rfl rfl (by decide +kernel) ⟨Nat.le_of_ble_eq_true rfl, Nat.le_of_ble_eq_true rfl⟩) hg11 rfl rfl rfl hl.1 (Nat.le_of_ble_eq_true rfl) dX8_paymentOf_27 ⟨by decide, by decide⟩ (fun r12 M13 H locs p14 Y => ?_)
      obtain ⟨hr9, hG15⟩ := p14
      refine n_top (hr9.trans (bN_t (by decide))) ?_
      refine n_if_eq hx hb 35 (by omega) dX8_paymentOf_30 (by decide) (fun zq => absurd zq (by decide)) (fun _ => ?_)
      refine n_iconst hx hb 0 dX8_paymentOf_33 (by decide) ?_
      refine m_iret X Y hr hlocks (by decide) (by decide) ?_ dX8_paymentOf_34
      exact MC_i (c := 2) (by (simp only [sp_paymentOf, hva, ix_nI hla, hvb, Bool.and_self, Bool.and_true, Bool.and_false, Bool.false_and, Bool.true_and, Bool.false_eq_true, reduceIte]) <;> rfl) hG15
    | true =>
      obtain ⟨jb, hjb, hlb, rfl⟩ := vI_t hvb
      refine lv_aload_n hx hb dX8_paymentOf_0 rfl (lv_at hl 0 rfl) ?_
      refine lv_aload_n hx hb dX8_paymentOf_1 rfl (lv_at hl 0 rfl) ?_
      refine lv_iload_n hx hb dX8_paymentOf_2 rfl (lv_at hl 1 rfl) ?_
      have hg16 := hG.f11 (hpr 11 (by decide))
      refine m_rVi (As := [.int (nI ja)]) (rest := [.ref (g.1 11 0)]) X Y hA hcx (c_m_isPayment l D kc A e0 M hG hwf hpr (nI ja)) (cwV 1 X.1.2.2.2.2 gX8_paymentOf_X8_isPayment rfl rfl rfl (by decide +kernel) ⟨Nat.le_of_ble_eq_true rfl, Nat.le_of_ble_eq_true rfl⟩) hg16 rfl rfl rfl hl.1 (Nat.le_of_ble_eq_true rfl) dX8_paymentOf_3 ⟨by decide, by decide⟩ (fun H locs Y => ?_)
      refine n_top (bN_t hva) ?_
      refine n_if_ne hx hb 13 (by omega) dX8_paymentOf_6 (by decide) (fun _ => ?_) (fun zq => absurd zq (by decide))
      refine lv_iload_n hx hb dX8_paymentOf_13 rfl (lv_at hl 2 rfl) ?_
      refine n_iconst hx hb 0 dX8_paymentOf_14 (by decide) ?_
      refine n_iconst hx hb 5 dX8_paymentOf_15 (by decide) ?_
      refine m_rSi (As := [.int (nI jb), .int (nI 0), .int (nI 5)]) (rest := [.ref (g.1 11 0)]) X Y hA hcx (c_m_isIn l D kc A e0 M (nI jb) 0 (nI 5)) (va_cwS 3 X.1.2.2.2.2 gX8_paymentOf_X8_isIn rfl rfl rfl (by decide +kernel) ⟨Nat.le_of_ble_eq_true rfl, Nat.le_of_ble_eq_true rfl⟩) rfl rfl hl.1 (Nat.le_of_ble_eq_true rfl) dX8_paymentOf_16 ⟨by decide, by decide⟩ (fun H locs Y => ?_)
      refine n_top (bN_c (isIn_vI2 (by decide))) ?_
      refine n_top (bN_t hvb) ?_
      refine n_if_eq hx hb 26 (by omega) dX8_paymentOf_19 (by decide) (fun zq => absurd zq (by decide)) (fun _ => ?_)
      refine n_iconst hx hb 0 dX8_paymentOf_22 (by decide) ?_
      refine lv_goto (tgt := 27) hx hb dX8_paymentOf_23 (by decide) ?_
      refine m_Vi (As := [.int (nI 0)]) (rest := []) X Y hA hcx (c_m_fails l D kc A e0 M hG hwf hpr 0 (by decide)) (cwV 1 X.1.2.2.2.2 gX8_paymentOf_X8_fails rfl rfl rfl (by decide +kernel) ⟨Nat.le_of_ble_eq_true rfl, Nat.le_of_ble_eq_true rfl⟩) hg16 rfl rfl rfl hl.1 (Nat.le_of_ble_eq_true rfl) dX8_paymentOf_27 ⟨by decide, by decide⟩ (fun r17 M18 H locs p19 Y => ?_)
      obtain ⟨hr9, hG20⟩ := p19
      refine n_top (hr9.trans (bN_f (by decide))) ?_
      refine n_if_eq hx hb 35 (by omega) dX8_paymentOf_30 (by decide) (fun _ => ?_) (fun zq => absurd zq (by decide))
      refine lv_iload_n hx hb dX8_paymentOf_35 rfl (lv_at hl 2 rfl) ?_
      have hw5 := hwf.2.2.2.2.1 _ hja
      rcases (show jb = 0 ∨ jb = 1 ∨ jb = 2 ∨ jb = 3 ∨ jb = 4 ∨ jb = 5 by omega) with rfl | rfl | rfl | rfl | rfl | rfl
      · refine lv_tableIn (tgt := 72) hx hb dX8_paymentOf_36 (by decide) (by decide) (off := 36) rfl (by decide) ?_
        refine lv_aload_n hx hb dX8_paymentOf_72 rfl (lv_at hl 0 rfl) ?_
        have hg21 := hG20.f11 (hpr 11 (by decide))
        refine m_get (ref := "CardPortModel") (C := RX8) (T := TX8) (N := 25) (ci := 9) X Y htX8_paymentOf_wsX801 hg21 rfl 5 (by decide) kwX8_paymentOf_1 rfl (v := .ref (g.1 12 5)) rfl dX8_paymentOf_73 ?_
        refine lv_iload_n hx hb dX8_paymentOf_76 rfl (lv_at hl 1 rfl) ?_
        refine g_iald X Y hG20 (hpr 12 (by decide)) (k := 5) (by decide) (j := ja) (show ja < 60 by omega) (v := τ.1 5 ja) rfl dX8_paymentOf_77 ?_
        refine m_iret X Y hr hlocks (by decide) (by decide) ?_ dX8_paymentOf_78
        exact MC_i (c := 0) (by (simp only [sp_paymentOf, hva, ix_nI hla, hvb, ix_nI hlb, Bool.and_self, Bool.and_true, Bool.and_false, Bool.false_and, Bool.true_and, Bool.false_eq_true, reduceIte]) <;> rfl) hG20
      · refine lv_tableIn (tgt := 79) hx hb dX8_paymentOf_36 (by decide) (by decide) (off := 43) rfl (by decide) ?_
        refine lv_aload_n hx hb dX8_paymentOf_79 rfl (lv_at hl 0 rfl) ?_
        have hg22 := hG20.f11 (hpr 11 (by decide))
        refine m_get (ref := "CardPortModel") (C := RX8) (T := TX8) (N := 25) (ci := 9) X Y htX8_paymentOf_wsX801 hg22 rfl 6 (by decide) kwX8_paymentOf_2 rfl (v := .ref (g.1 12 6)) rfl dX8_paymentOf_80 ?_
        refine lv_iload_n hx hb dX8_paymentOf_83 rfl (lv_at hl 1 rfl) ?_
        refine g_iald X Y hG20 (hpr 12 (by decide)) (k := 6) (by decide) (j := ja) (show ja < 60 by omega) (v := τ.1 6 ja) rfl dX8_paymentOf_84 ?_
        refine m_iret X Y hr hlocks (by decide) (by decide) ?_ dX8_paymentOf_85
        exact MC_i (c := 0) (by (simp only [sp_paymentOf, hva, ix_nI hla, hvb, ix_nI hlb, Bool.and_self, Bool.and_true, Bool.and_false, Bool.false_and, Bool.true_and, Bool.false_eq_true, reduceIte]) <;> rfl) hG20
      · refine lv_tableIn (tgt := 86) hx hb dX8_paymentOf_36 (by decide) (by decide) (off := 50) rfl (by decide) ?_
        refine lv_aload_n hx hb dX8_paymentOf_86 rfl (lv_at hl 0 rfl) ?_
        have hg23 := hG20.f11 (hpr 11 (by decide))
        refine m_get (ref := "CardPortModel") (C := RX8) (T := TX8) (N := 25) (ci := 9) X Y htX8_paymentOf_wsX801 hg23 rfl 7 (by decide) kwX8_paymentOf_3 rfl (v := .ref (g.1 12 7)) rfl dX8_paymentOf_87 ?_
        refine lv_iload_n hx hb dX8_paymentOf_90 rfl (lv_at hl 1 rfl) ?_
        refine g_iald X Y hG20 (hpr 12 (by decide)) (k := 7) (by decide) (j := ja) (show ja < 60 by omega) (v := τ.1 7 ja) rfl dX8_paymentOf_91 ?_
        refine m_iret X Y hr hlocks (by decide) (by decide) ?_ dX8_paymentOf_92
        exact MC_i (c := 0) (by (simp only [sp_paymentOf, hva, ix_nI hla, hvb, ix_nI hlb, Bool.and_self, Bool.and_true, Bool.and_false, Bool.false_and, Bool.true_and, Bool.false_eq_true, reduceIte]) <;> rfl) hG20
      · refine lv_tableIn (tgt := 93) hx hb dX8_paymentOf_36 (by decide) (by decide) (off := 57) rfl (by decide) ?_
        refine lv_aload_n hx hb dX8_paymentOf_93 rfl (lv_at hl 0 rfl) ?_
        have hg24 := hG20.f11 (hpr 11 (by decide))
        refine m_get (ref := "CardPortModel") (C := RX8) (T := TX8) (N := 25) (ci := 9) X Y htX8_paymentOf_wsX801 hg24 rfl 8 (by decide) kwX8_paymentOf_4 rfl (v := .ref (g.1 12 8)) rfl dX8_paymentOf_94 ?_
        refine lv_iload_n hx hb dX8_paymentOf_97 rfl (lv_at hl 1 rfl) ?_
        refine g_iald X Y hG20 (hpr 12 (by decide)) (k := 8) (by decide) (j := ja) (show ja < 60 by omega) (v := τ.1 8 ja) rfl dX8_paymentOf_98 ?_
        refine m_iret X Y hr hlocks (by decide) (by decide) ?_ dX8_paymentOf_99
        exact MC_i (c := 0) (by (simp only [sp_paymentOf, hva, ix_nI hla, hvb, ix_nI hlb, Bool.and_self, Bool.and_true, Bool.and_false, Bool.false_and, Bool.true_and, Bool.false_eq_true, reduceIte]) <;> rfl) hG20
      · refine lv_tableIn (tgt := 100) hx hb dX8_paymentOf_36 (by decide) (by decide) (off := 64) rfl (by decide) ?_
        refine lv_aload_n hx hb dX8_paymentOf_100 rfl (lv_at hl 0 rfl) ?_
        have hg25 := hG20.f11 (hpr 11 (by decide))
        refine m_get (ref := "CardPortModel") (C := RX8) (T := TX8) (N := 25) (ci := 9) X Y htX8_paymentOf_wsX801 hg25 rfl 9 (by decide) kwX8_paymentOf_5 rfl (v := .ref (g.1 12 9)) rfl dX8_paymentOf_101 ?_
        refine lv_iload_n hx hb dX8_paymentOf_104 rfl (lv_at hl 1 rfl) ?_
        refine g_iald X Y hG20 (hpr 12 (by decide)) (k := 9) (by decide) (j := ja) (show ja < 60 by omega) (v := τ.1 9 ja) rfl dX8_paymentOf_105 ?_
        refine m_iret X Y hr hlocks (by decide) (by decide) ?_ dX8_paymentOf_106
        exact MC_i (c := 0) (by (simp only [sp_paymentOf, hva, ix_nI hla, hvb, ix_nI hlb, Bool.and_self, Bool.and_true, Bool.and_false, Bool.false_and, Bool.true_and, Bool.false_eq_true, reduceIte]) <;> rfl) hG20
      · refine lv_tableOut (tgt := 107) hx hb dX8_paymentOf_36 (Or.inr (by decide)) (by decide) ?_
        refine lv_aload_n hx hb dX8_paymentOf_107 rfl (lv_at hl 0 rfl) ?_
        refine lv_iload_n hx hb dX8_paymentOf_108 rfl (lv_at hl 1 rfl) ?_
        have hg26 := hG20.f11 (hpr 11 (by decide))
        refine m_rVi (As := [.int (nI ja)]) (rest := []) X Y hA hcx (c_m_isOpen l D kc A e0 M18 hG20 hwf hpr ja hja) (cwV 1 X.1.2.2.2.2 gX8_paymentOf_X8_isOpen rfl rfl rfl (by decide +kernel) ⟨Nat.le_of_ble_eq_true rfl, Nat.le_of_ble_eq_true rfl⟩) hg26 rfl rfl rfl hl.1 (Nat.le_of_ble_eq_true rfl) dX8_paymentOf_109 ⟨by decide, by decide⟩ (fun H locs Y => ?_)
        by_cases hal : τ.1 10 ja = 0 ∧ tD τ ≤ τ.1 9 ja
        · refine n_top (bN_t hal) ?_
          refine n_if_eq hx hb 134 (by omega) dX8_paymentOf_112 (by decide) (fun zq => absurd zq (by decide)) (fun _ => ?_)
          refine lv_aload_n hx hb dX8_paymentOf_115 rfl (lv_at hl 0 rfl) ?_
          refine m_get (ref := "CardPortModel") (C := RX8) (T := TX8) (N := 25) (ci := 9) X Y htX8_paymentOf_wsX801 hg26 rfl 8 (by decide) kwX8_paymentOf_4 rfl (v := .ref (g.1 12 8)) rfl dX8_paymentOf_116 ?_
          refine lv_iload_n hx hb dX8_paymentOf_119 rfl (lv_at hl 1 rfl) ?_
          refine g_iald X Y hG20 (hpr 12 (by decide)) (k := 8) (by decide) (j := ja) (show ja < 60 by omega) (v := τ.1 8 ja) rfl dX8_paymentOf_120 ?_
          refine lv_aload_n hx hb dX8_paymentOf_121 rfl (lv_at hl 0 rfl) ?_
          refine m_get (ref := "CardPortModel") (C := RX8) (T := TX8) (N := 25) (ci := 9) X Y htX8_paymentOf_wsX801 hg26 rfl 7 (by decide) kwX8_paymentOf_3 rfl (v := .ref (g.1 12 7)) rfl dX8_paymentOf_122 ?_
          refine lv_iload_n hx hb dX8_paymentOf_125 rfl (lv_at hl 1 rfl) ?_
          refine g_iald X Y hG20 (hpr 12 (by decide)) (k := 7) (by decide) (j := ja) (show ja < 60 by omega) (v := τ.1 7 ja) rfl dX8_paymentOf_126 ?_
          refine n_icmp_ge hx hb 134 (by omega) (by omega) dX8_paymentOf_127 (by decide) (fun c127 => ?_) (fun c127 => ?_)
          · refine n_iconst hx hb 0 dX8_paymentOf_134 (by decide) ?_
            refine m_iret X Y hr hlocks (by decide) (by decide) ?_ dX8_paymentOf_135
            exact MC_i (c := 0) (by (simp only [sp_paymentOf, hva, ix_nI hla, hvb, ix_nI hlb, Bool.and_self, Bool.and_true, Bool.and_false, Bool.false_and, Bool.true_and, Bool.false_eq_true, reduceIte]; rw [pof5, bN_f (by omega)]) <;> rfl) hG20
          · refine n_iconst hx hb 1 dX8_paymentOf_130 (by decide) ?_
            refine lv_goto (tgt := 135) hx hb dX8_paymentOf_131 (by decide) ?_
            refine m_iret X Y hr hlocks (by decide) (by decide) ?_ dX8_paymentOf_135
            exact MC_i (c := 0) (by (simp only [sp_paymentOf, hva, ix_nI hla, hvb, ix_nI hlb, Bool.and_self, Bool.and_true, Bool.and_false, Bool.false_and, Bool.true_and, Bool.false_eq_true, reduceIte]; rw [pof5, bN_t (by omega)]) <;> rfl) hG20
        · refine n_top (bN_f hal) ?_
          refine n_if_eq hx hb 134 (by omega) dX8_paymentOf_112 (by decide) (fun _ => ?_) (fun zq => absurd zq (by decide))
          refine n_iconst hx hb 0 dX8_paymentOf_134 (by decide) ?_
          refine m_iret X Y hr hlocks (by decide) (by decide) ?_ dX8_paymentOf_135
          exact MC_i (c := 0) (by (simp only [sp_paymentOf, hva, ix_nI hla, hvb, ix_nI hlb, Bool.and_self, Bool.and_true, Bool.and_false, Bool.false_and, Bool.true_and, Bool.false_eq_true, reduceIte]; rw [pof5, bN_f (by omega)]) <;> rfl) hG20
