theorem WS_nu {n : Nat} {σ : Sg} {ν : Nat → Nat → Int} (h : WS n σ) : WS n (σ.1, ν) := by
  obtain ⟨a1, a3, a4, a5, a6, a7, a8, a9, a10⟩ := h
  refine ⟨a1, a3, a4, a5, a6, a7, fun k hk => ?_, a9, a10⟩
  have h8 := a8 k hk
  refine ⟨h8.1, h8.2.1, h8.2.2.1, h8.2.2.2.1, ?_⟩
  have e : gb (σ.1, ν) k = gb σ k := gbS_eq (σ := σ) (σ' := (σ.1, ν)) (k := k) rfl _ (fun _ _ => rfl)
  rw [e]; exact h8.2.2.2.2
theorem kwX8_shop_1 : Cond.fieldLink RX8 7 "CardPortModel" "kindOf" "[I" ∈ wsX8_shop := List.mem_of_getElem? (i := 1) rfl
theorem htX8_shop_wsX801 : ∀ w ∈ wsX80, w ∈ wsX8_shop := fun _ h => List.mem_cons_of_mem _ (List.mem_append_right _ h)
set_option maxHeartbeats 4000000 in
set_option maxRecDepth 100000 in
theorem c_X8_shop (l : Launch) (D : va_G) (kc : Nat → ClassId) (A : Nat → Prop) (e0 : Nat × Nat) (M : Mp) {pr : Nat → Prop} {σ τ : Sg} {th : Int32} {o : Int64} {g : Gh} {nn : Nat} (hG : G pr kc e0 σ τ th o g M) (hwf : WS nn τ) (hpr : ∀ t, t ≤ 13 → pr t) (a b : Int32) : Met l yX8_shop wsX8_shop ({ frames := 2, cells := 0, slots := 0, locals := 42 }) (mPre D kc A e0 M [.ref (g.1 11 0), .int a, .int b]) (va_Qi (MC pr kc e0 σ o g (sp_shop τ a b)) (mB D A) A) 0 0 A := by
  refine Met.ofW (cc := cX8_shop) (maxL := 4) (ret := (some .int)) (by decide) rfl ?_
  intro p e s m args below meth c s₁ B hml hv
  obtain ⟨rfl, hw, hK, hA, hcx⟩ := hv
  have X : mX p s m _ c cX8_shop 4 RX8 wsX8_shop D kc := ⟨⟨B.exec, B.bytes, hml, findClass_of_methodNamed B.named, atoms_spec (ws := wsX8_shop) B.pre⟩, hK⟩
  have hx := B.exec
  have hb := B.bytes
  have hr := B.returns
  have hlocks := B.notSynchronized
  have Y : mY D A M s s.heap [] := ⟨hw, va_S.rf⟩
  have hl := lv_entry ([.ref (g.1 11 0), .int a, .int b]) (n := 4) (Nat.le_of_ble_eq_true rfl)
  rw [lg_entry_eq]
  generalize (lg_sl ([.ref (g.1 11 0), .int a, .int b]) ++ List.replicate (4 - (lg_sl ([.ref (g.1 11 0), .int a, .int b])).length) Slot.unset).toArray = ls at hl ⊢
  have hl : lv_has ls 4 [(0, .ref (g.1 11 0)), (1, .int a), (2, .int b)] := hl
  have hwn := hwf.2.2.2.1
  have hwd := hwf.1
  cases hva : vI a 8 with
  | false =>
    cases hvb : vI b 3 with
    | false =>
      refine lv_aload_n hx hb dX8_shop_0 rfl (lv_at hl 0 rfl) ?_
      refine lv_iload_n hx hb dX8_shop_1 rfl (lv_at hl 1 rfl) ?_
      refine m_rSi (As := [.int a]) (rest := [.ref (g.1 11 0)]) X Y hA hcx (c_m_isShop l D kc A e0 M a) (va_cwS 1 X.1.2.2.2.2 gX8_shop_X8_isShop rfl rfl rfl (by decide +kernel) ⟨Nat.le_of_ble_eq_true rfl, Nat.le_of_ble_eq_true rfl⟩) rfl rfl hl.1 (Nat.le_of_ble_eq_true rfl) dX8_shop_2 ⟨by decide, by decide⟩ (fun H locs Y => ?_)
      refine n_top (bN_f (by rw [hva]; decide)) ?_
      refine n_if_eq hx hb 19 (by omega) dX8_shop_5 (by decide) (fun _ => ?_) (fun zq => absurd zq (by decide))
      refine n_iconst hx hb 1 dX8_shop_19 (by decide) ?_
      have hg1 := hG.f11 (hpr 11 (by decide))
      refine m_Vi (As := [.int (nI 1)]) (rest := []) X Y hA hcx (c_m_fails l D kc A e0 M hG hwf hpr 1 (by decide)) (cwV 1 X.1.2.2.2.2 gX8_shop_X8_fails rfl rfl rfl (by decide +kernel) ⟨Nat.le_of_ble_eq_true rfl, Nat.le_of_ble_eq_true rfl⟩) hg1 rfl rfl rfl hl.1 (Nat.le_of_ble_eq_true rfl) dX8_shop_20 ⟨by decide, by decide⟩ (fun r2 M3 H locs p4 Y => ?_)
      obtain ⟨hr9, hG5⟩ := p4
      refine n_top (hr9.trans (bN_t (by decide))) ?_
      refine n_if_eq hx hb 28 (by omega) dX8_shop_23 (by decide) (fun zq => absurd zq (by decide)) (fun _ => ?_)
      refine n_iconst hx hb 0 dX8_shop_26 (by decide) ?_
      refine m_iret X Y hr hlocks (by decide) (by decide) ?_ dX8_shop_27
      exact MC_i (c := 1) (by (simp only [sp_shop, hva, hvb, Bool.and_self, Bool.and_true, Bool.and_false, Bool.false_and, Bool.true_and, Bool.false_eq_true, reduceIte]) <;> rfl) hG5
    | true =>
      obtain ⟨jb, hjb, hlb, rfl⟩ := vI_t hvb
      refine lv_aload_n hx hb dX8_shop_0 rfl (lv_at hl 0 rfl) ?_
      refine lv_iload_n hx hb dX8_shop_1 rfl (lv_at hl 1 rfl) ?_
      refine m_rSi (As := [.int a]) (rest := [.ref (g.1 11 0)]) X Y hA hcx (c_m_isShop l D kc A e0 M a) (va_cwS 1 X.1.2.2.2.2 gX8_shop_X8_isShop rfl rfl rfl (by decide +kernel) ⟨Nat.le_of_ble_eq_true rfl, Nat.le_of_ble_eq_true rfl⟩) rfl rfl hl.1 (Nat.le_of_ble_eq_true rfl) dX8_shop_2 ⟨by decide, by decide⟩ (fun H locs Y => ?_)
      refine n_top (bN_f (by rw [hva]; decide)) ?_
      refine n_if_eq hx hb 19 (by omega) dX8_shop_5 (by decide) (fun _ => ?_) (fun zq => absurd zq (by decide))
      refine n_iconst hx hb 1 dX8_shop_19 (by decide) ?_
      have hg6 := hG.f11 (hpr 11 (by decide))
      refine m_Vi (As := [.int (nI 1)]) (rest := []) X Y hA hcx (c_m_fails l D kc A e0 M hG hwf hpr 1 (by decide)) (cwV 1 X.1.2.2.2.2 gX8_shop_X8_fails rfl rfl rfl (by decide +kernel) ⟨Nat.le_of_ble_eq_true rfl, Nat.le_of_ble_eq_true rfl⟩) hg6 rfl rfl rfl hl.1 (Nat.le_of_ble_eq_true rfl) dX8_shop_20 ⟨by decide, by decide⟩ (fun r7 M8 H locs p9 Y => ?_)
      obtain ⟨hr9, hG10⟩ := p9
      refine n_top (hr9.trans (bN_t (by decide))) ?_
      refine n_if_eq hx hb 28 (by omega) dX8_shop_23 (by decide) (fun zq => absurd zq (by decide)) (fun _ => ?_)
      refine n_iconst hx hb 0 dX8_shop_26 (by decide) ?_
      refine m_iret X Y hr hlocks (by decide) (by decide) ?_ dX8_shop_27
      exact MC_i (c := 1) (by (simp only [sp_shop, hva, hvb, ix_nI hlb, Bool.and_self, Bool.and_true, Bool.and_false, Bool.false_and, Bool.true_and, Bool.false_eq_true, reduceIte]) <;> rfl) hG10
  | true =>
    obtain ⟨ja, hja, hla, rfl⟩ := vI_t hva
    cases hvb : vI b 3 with
    | false =>
      refine lv_aload_n hx hb dX8_shop_0 rfl (lv_at hl 0 rfl) ?_
      refine lv_iload_n hx hb dX8_shop_1 rfl (lv_at hl 1 rfl) ?_
      refine m_rSi (As := [.int (nI ja)]) (rest := [.ref (g.1 11 0)]) X Y hA hcx (c_m_isShop l D kc A e0 M (nI ja)) (va_cwS 1 X.1.2.2.2.2 gX8_shop_X8_isShop rfl rfl rfl (by decide +kernel) ⟨Nat.le_of_ble_eq_true rfl, Nat.le_of_ble_eq_true rfl⟩) rfl rfl hl.1 (Nat.le_of_ble_eq_true rfl) dX8_shop_2 ⟨by decide, by decide⟩ (fun H locs Y => ?_)
      refine n_top (bN_t hva) ?_
      refine n_if_eq hx hb 19 (by omega) dX8_shop_5 (by decide) (fun zq => absurd zq (by decide)) (fun _ => ?_)
      refine lv_iload_n hx hb dX8_shop_8 rfl (lv_at hl 2 rfl) ?_
      refine m_rSi (As := [.int b]) (rest := [.ref (g.1 11 0)]) X Y hA hcx (c_m_isKind l D kc A e0 M b) (va_cwS 1 X.1.2.2.2.2 gX8_shop_X8_isKind rfl rfl rfl (by decide +kernel) ⟨Nat.le_of_ble_eq_true rfl, Nat.le_of_ble_eq_true rfl⟩) rfl rfl hl.1 (Nat.le_of_ble_eq_true rfl) dX8_shop_9 ⟨by decide, by decide⟩ (fun H locs Y => ?_)
      refine n_top (bN_f (by rw [hvb]; decide)) ?_
      refine n_if_eq hx hb 19 (by omega) dX8_shop_12 (by decide) (fun _ => ?_) (fun zq => absurd zq (by decide))
      refine n_iconst hx hb 1 dX8_shop_19 (by decide) ?_
      have hg11 := hG.f11 (hpr 11 (by decide))
      refine m_Vi (As := [.int (nI 1)]) (rest := []) X Y hA hcx (c_m_fails l D kc A e0 M hG hwf hpr 1 (by decide)) (cwV 1 X.1.2.2.2.2 gX8_shop_X8_fails rfl rfl rfl (by decide +kernel) ⟨Nat.le_of_ble_eq_true rfl, Nat.le_of_ble_eq_true rfl⟩) hg11 rfl rfl rfl hl.1 (Nat.le_of_ble_eq_true rfl) dX8_shop_20 ⟨by decide, by decide⟩ (fun r12 M13 H locs p14 Y => ?_)
      obtain ⟨hr9, hG15⟩ := p14
      refine n_top (hr9.trans (bN_t (by decide))) ?_
      refine n_if_eq hx hb 28 (by omega) dX8_shop_23 (by decide) (fun zq => absurd zq (by decide)) (fun _ => ?_)
      refine n_iconst hx hb 0 dX8_shop_26 (by decide) ?_
      refine m_iret X Y hr hlocks (by decide) (by decide) ?_ dX8_shop_27
      exact MC_i (c := 1) (by (simp only [sp_shop, hva, ix_nI hla, hvb, Bool.and_self, Bool.and_true, Bool.and_false, Bool.false_and, Bool.true_and, Bool.false_eq_true, reduceIte]) <;> rfl) hG15
    | true =>
      obtain ⟨jb, hjb, hlb, rfl⟩ := vI_t hvb
      refine lv_aload_n hx hb dX8_shop_0 rfl (lv_at hl 0 rfl) ?_
      refine lv_iload_n hx hb dX8_shop_1 rfl (lv_at hl 1 rfl) ?_
      refine m_rSi (As := [.int (nI ja)]) (rest := [.ref (g.1 11 0)]) X Y hA hcx (c_m_isShop l D kc A e0 M (nI ja)) (va_cwS 1 X.1.2.2.2.2 gX8_shop_X8_isShop rfl rfl rfl (by decide +kernel) ⟨Nat.le_of_ble_eq_true rfl, Nat.le_of_ble_eq_true rfl⟩) rfl rfl hl.1 (Nat.le_of_ble_eq_true rfl) dX8_shop_2 ⟨by decide, by decide⟩ (fun H locs Y => ?_)
      refine n_top (bN_t hva) ?_
      refine n_if_eq hx hb 19 (by omega) dX8_shop_5 (by decide) (fun zq => absurd zq (by decide)) (fun _ => ?_)
      refine lv_iload_n hx hb dX8_shop_8 rfl (lv_at hl 2 rfl) ?_
      refine m_rSi (As := [.int (nI jb)]) (rest := [.ref (g.1 11 0)]) X Y hA hcx (c_m_isKind l D kc A e0 M (nI jb)) (va_cwS 1 X.1.2.2.2.2 gX8_shop_X8_isKind rfl rfl rfl (by decide +kernel) ⟨Nat.le_of_ble_eq_true rfl, Nat.le_of_ble_eq_true rfl⟩) rfl rfl hl.1 (Nat.le_of_ble_eq_true rfl) dX8_shop_9 ⟨by decide, by decide⟩ (fun H locs Y => ?_)
      refine n_top (bN_t hvb) ?_
      refine n_if_eq hx hb 19 (by omega) dX8_shop_12 (by decide) (fun zq => absurd zq (by decide)) (fun _ => ?_)
      refine n_iconst hx hb 0 dX8_shop_15 (by decide) ?_
      refine lv_goto (tgt := 20) hx hb dX8_shop_16 (by decide) ?_
      have hg16 := hG.f11 (hpr 11 (by decide))
      refine m_Vi (As := [.int (nI 0)]) (rest := []) X Y hA hcx (c_m_fails l D kc A e0 M hG hwf hpr 0 (by decide)) (cwV 1 X.1.2.2.2.2 gX8_shop_X8_fails rfl rfl rfl (by decide +kernel) ⟨Nat.le_of_ble_eq_true rfl, Nat.le_of_ble_eq_true rfl⟩) hg16 rfl rfl rfl hl.1 (Nat.le_of_ble_eq_true rfl) dX8_shop_20 ⟨by decide, by decide⟩ (fun r17 M18 H locs p19 Y => ?_)
      obtain ⟨hr9, hG20⟩ := p19
      refine n_top (hr9.trans (bN_f (by decide))) ?_
      refine n_if_eq hx hb 28 (by omega) dX8_shop_23 (by decide) (fun _ => ?_) (fun zq => absurd zq (by decide))
      refine lv_aload_n hx hb dX8_shop_28 rfl (lv_at hl 0 rfl) ?_
      have hg21 := hG20.f11 (hpr 11 (by decide))
      refine m_get (ref := "CardPortModel") (C := RX8) (T := TX8) (N := 25) (ci := 9) X Y htX8_shop_wsX801 hg21 rfl 1 (by decide) kwX8_shop_1 rfl (v := .ref (g.1 12 1)) rfl dX8_shop_29 ?_
      refine lv_iload_n hx hb dX8_shop_32 rfl (lv_at hl 1 rfl) ?_
      refine g_iald X Y hG20 (hpr 12 (by decide)) (k := 1) (by decide) (j := ja) (show ja < 8 by omega) (v := τ.1 1 ja) rfl dX8_shop_33 ?_
      refine lv_istore_n (lv' := [(3, .int (nI (τ.1 1 ja))), (0, .ref (g.1 11 0)), (1, .int (nI ja)), (2, .int (nI jb))]) hx hb dX8_shop_34 rfl hl (by decide) rfl (fun ls hl => ?_)
      refine lv_aload_n hx hb dX8_shop_35 rfl (lv_at hl 1 rfl) ?_
      refine m_get (ref := "CardPortModel") (C := RX8) (T := TX8) (N := 25) (ci := 9) X Y htX8_shop_wsX801 hg21 rfl 1 (by decide) kwX8_shop_1 rfl (v := .ref (g.1 12 1)) rfl dX8_shop_36 ?_
      refine lv_iload_n hx hb dX8_shop_39 rfl (lv_at hl 2 rfl) ?_
      refine lv_iload_n hx hb dX8_shop_40 rfl (lv_at hl 3 rfl) ?_
      refine g_iast X Y hG20 (hpr 12 (by decide)) (k := 1) (by decide) (j := ja) (v := jb) (show ja < 8 by omega) dX8_shop_41 (fun M22 H locs hG23 Y => ?_)
      refine lv_iload_n hx hb dX8_shop_42 rfl (lv_at hl 0 rfl) ?_
      refine m_iret X Y hr hlocks (by decide) (by decide) ?_ dX8_shop_43
      exact MC_i (c := 0) (by (simp only [sp_shop, hva, ix_nI hla, hvb, ix_nI hlb, Bool.and_self, Bool.and_true, Bool.and_false, Bool.false_and, Bool.true_and, Bool.false_eq_true, reduceIte]) <;> rfl) hG23
theorem kwX8_kind_1 : Cond.fieldLink RX8 13 "CardPortModel" "rate" "[I" ∈ wsX8_kind := List.mem_of_getElem? (i := 1) rfl
theorem htX8_kind_wsX801 : ∀ w ∈ wsX80, w ∈ wsX8_kind := fun _ h => List.mem_cons_of_mem _ (List.mem_append_right _ h)
theorem kwX8_kind_2 : Cond.fieldLink RX8 16 "CardPortModel" "cap" "[I" ∈ wsX8_kind := List.mem_of_getElem? (i := 2) rfl
set_option maxHeartbeats 4000000 in
set_option maxRecDepth 100000 in
theorem c_X8_kind (l : Launch) (D : va_G) (kc : Nat → ClassId) (A : Nat → Prop) (e0 : Nat × Nat) (M : Mp) {pr : Nat → Prop} {σ τ : Sg} {th : Int32} {o : Int64} {g : Gh} {nn : Nat} (hG : G pr kc e0 σ τ th o g M) (hwf : WS nn τ) (hpr : ∀ t, t ≤ 13 → pr t) (a b d : Int32) : Met l yX8_kind wsX8_kind ({ frames := 2, cells := 0, slots := 0, locals := 42 }) (mPre D kc A e0 M [.ref (g.1 11 0), .int a, .int b, .int d]) (va_Qi (MC pr kc e0 σ o g (sp_kind τ a b d)) (mB D A) A) 0 0 A := by
  refine Met.ofW (cc := cX8_kind) (maxL := 5) (ret := (some .int)) (by decide) rfl ?_
  intro p e s m args below meth c s₁ B hml hv
  obtain ⟨rfl, hw, hK, hA, hcx⟩ := hv
  have X : mX p s m _ c cX8_kind 5 RX8 wsX8_kind D kc := ⟨⟨B.exec, B.bytes, hml, findClass_of_methodNamed B.named, atoms_spec (ws := wsX8_kind) B.pre⟩, hK⟩
  have hx := B.exec
  have hb := B.bytes
  have hr := B.returns
  have hlocks := B.notSynchronized
  have Y : mY D A M s s.heap [] := ⟨hw, va_S.rf⟩
  have hl := lv_entry ([.ref (g.1 11 0), .int a, .int b, .int d]) (n := 5) (Nat.le_of_ble_eq_true rfl)
  rw [lg_entry_eq]
  generalize (lg_sl ([.ref (g.1 11 0), .int a, .int b, .int d]) ++ List.replicate (5 - (lg_sl ([.ref (g.1 11 0), .int a, .int b, .int d])).length) Slot.unset).toArray = ls at hl ⊢
  have hl : lv_has ls 5 [(0, .ref (g.1 11 0)), (1, .int a), (2, .int b), (3, .int d)] := hl
  have hwn := hwf.2.2.2.1
  have hwd := hwf.1
  cases hva : vI a 3 with
  | false =>
    cases hrb : rI b 0 100 with
    | false =>
      cases hrd : rI d 0 9999 with
      | false =>
        refine lv_iload_n hx hb dX8_kind_0 rfl (lv_at hl 2 rfl) ?_
        refine n_iconst hx hb 0 dX8_kind_1 (by decide) ?_
        refine n_bipush hx hb 100 dX8_kind_2 (by decide) ?_
        refine m_rSi (As := [.int b, .int (nI 0), .int (nI 100)]) (rest := []) X Y hA hcx (c_m_isIn l D kc A e0 M b 0 (nI 100)) (va_cwS 3 X.1.2.2.2.2 gX8_kind_X8_isIn rfl rfl rfl (by decide +kernel) ⟨Nat.le_of_ble_eq_true rfl, Nat.le_of_ble_eq_true rfl⟩) rfl rfl hl.1 (Nat.le_of_ble_eq_true rfl) dX8_kind_4 ⟨by decide, by decide⟩ (fun H locs Y => ?_)
        refine n_top (bN_c (isIn_rI (by decide) (by decide))) ?_
        refine n_top (bN_f (by rw [hrb]; decide)) ?_
        refine n_if_eq hx hb 25 (by omega) dX8_kind_7 (by decide) (fun _ => ?_) (fun zq => absurd zq (by decide))
        refine n_iconst hx hb 0 dX8_kind_25 (by decide) ?_
        refine lv_istore (lv' := [(4, .int (nI 0)), (0, .ref (g.1 11 0)), (1, .int a), (2, .int b), (3, .int d)]) hx hb dX8_kind_26 hl (by decide) rfl (fun ls hl => ?_)
        refine lv_aload_n hx hb dX8_kind_28 rfl (lv_at hl 1 rfl) ?_
        refine lv_iload_n hx hb dX8_kind_29 rfl (lv_at hl 2 rfl) ?_
        refine m_rSi (As := [.int a]) (rest := [.ref (g.1 11 0)]) X Y hA hcx (c_m_isKind l D kc A e0 M a) (va_cwS 1 X.1.2.2.2.2 gX8_kind_X8_isKind rfl rfl rfl (by decide +kernel) ⟨Nat.le_of_ble_eq_true rfl, Nat.le_of_ble_eq_true rfl⟩) rfl rfl hl.1 (Nat.le_of_ble_eq_true rfl) dX8_kind_30 ⟨by decide, by decide⟩ (fun H locs Y => ?_)
        refine n_top (bN_f (by rw [hva]; decide)) ?_
        refine n_if_ne hx hb 40 (by omega) dX8_kind_33 (by decide) (fun zq => absurd zq (by decide)) (fun _ => ?_)
        refine n_iconst hx hb 1 dX8_kind_36 (by decide) ?_
        refine lv_goto (tgt := 50) hx hb dX8_kind_37 (by decide) ?_
        have hg1 := hG.f11 (hpr 11 (by decide))
        refine m_Vi (As := [.int (nI 1)]) (rest := []) X Y hA hcx (c_m_fails l D kc A e0 M hG hwf hpr 1 (by decide)) (cwV 1 X.1.2.2.2.2 gX8_kind_X8_fails rfl rfl rfl (by decide +kernel) ⟨Nat.le_of_ble_eq_true rfl, Nat.le_of_ble_eq_true rfl⟩) hg1 rfl rfl rfl hl.1 (Nat.le_of_ble_eq_true rfl) dX8_kind_50 ⟨by decide, by decide⟩ (fun r2 M3 H locs p4 Y => ?_)
        obtain ⟨hr9, hG5⟩ := p4
        refine n_top (hr9.trans (bN_t (by decide))) ?_
        refine n_if_eq hx hb 58 (by omega) dX8_kind_53 (by decide) (fun zq => absurd zq (by decide)) (fun _ => ?_)
        refine n_iconst hx hb 0 dX8_kind_56 (by decide) ?_
        refine m_iret X Y hr hlocks (by decide) (by decide) ?_ dX8_kind_57
        exact MC_i (c := 1) (by (simp only [sp_kind, hva, hrb, hrd, Bool.and_self, Bool.and_true, Bool.and_false, Bool.false_and, Bool.true_and, Bool.false_eq_true, reduceIte]) <;> rfl) hG5
      | true =>
        obtain ⟨jd, had, hbd, hld, rfl⟩ := rI_t hrd
        refine lv_iload_n hx hb dX8_kind_0 rfl (lv_at hl 2 rfl) ?_
        refine n_iconst hx hb 0 dX8_kind_1 (by decide) ?_
        refine n_bipush hx hb 100 dX8_kind_2 (by decide) ?_
        refine m_rSi (As := [.int b, .int (nI 0), .int (nI 100)]) (rest := []) X Y hA hcx (c_m_isIn l D kc A e0 M b 0 (nI 100)) (va_cwS 3 X.1.2.2.2.2 gX8_kind_X8_isIn rfl rfl rfl (by decide +kernel) ⟨Nat.le_of_ble_eq_true rfl, Nat.le_of_ble_eq_true rfl⟩) rfl rfl hl.1 (Nat.le_of_ble_eq_true rfl) dX8_kind_4 ⟨by decide, by decide⟩ (fun H locs Y => ?_)
        refine n_top (bN_c (isIn_rI (by decide) (by decide))) ?_
        refine n_top (bN_f (by rw [hrb]; decide)) ?_
        refine n_if_eq hx hb 25 (by omega) dX8_kind_7 (by decide) (fun _ => ?_) (fun zq => absurd zq (by decide))
        refine n_iconst hx hb 0 dX8_kind_25 (by decide) ?_
        refine lv_istore (lv' := [(4, .int (nI 0)), (0, .ref (g.1 11 0)), (1, .int a), (2, .int b), (3, .int (nI jd))]) hx hb dX8_kind_26 hl (by decide) rfl (fun ls hl => ?_)
        refine lv_aload_n hx hb dX8_kind_28 rfl (lv_at hl 1 rfl) ?_
        refine lv_iload_n hx hb dX8_kind_29 rfl (lv_at hl 2 rfl) ?_
        refine m_rSi (As := [.int a]) (rest := [.ref (g.1 11 0)]) X Y hA hcx (c_m_isKind l D kc A e0 M a) (va_cwS 1 X.1.2.2.2.2 gX8_kind_X8_isKind rfl rfl rfl (by decide +kernel) ⟨Nat.le_of_ble_eq_true rfl, Nat.le_of_ble_eq_true rfl⟩) rfl rfl hl.1 (Nat.le_of_ble_eq_true rfl) dX8_kind_30 ⟨by decide, by decide⟩ (fun H locs Y => ?_)
        refine n_top (bN_f (by rw [hva]; decide)) ?_
        refine n_if_ne hx hb 40 (by omega) dX8_kind_33 (by decide) (fun zq => absurd zq (by decide)) (fun _ => ?_)
        refine n_iconst hx hb 1 dX8_kind_36 (by decide) ?_
        refine lv_goto (tgt := 50) hx hb dX8_kind_37 (by decide) ?_
        have hg6 := hG.f11 (hpr 11 (by decide))
        refine m_Vi (As := [.int (nI 1)]) (rest := []) X Y hA hcx (c_m_fails l D kc A e0 M hG hwf hpr 1 (by decide)) (cwV 1 X.1.2.2.2.2 gX8_kind_X8_fails rfl rfl rfl (by decide +kernel) ⟨Nat.le_of_ble_eq_true rfl, Nat.le_of_ble_eq_true rfl⟩) hg6 rfl rfl rfl hl.1 (Nat.le_of_ble_eq_true rfl) dX8_kind_50 ⟨by decide, by decide⟩ (fun r7 M8 H locs p9 Y => ?_)
        obtain ⟨hr9, hG10⟩ := p9
        refine n_top (hr9.trans (bN_t (by decide))) ?_
        refine n_if_eq hx hb 58 (by omega) dX8_kind_53 (by decide) (fun zq => absurd zq (by decide)) (fun _ => ?_)
        refine n_iconst hx hb 0 dX8_kind_56 (by decide) ?_
        refine m_iret X Y hr hlocks (by decide) (by decide) ?_ dX8_kind_57
        exact MC_i (c := 1) (by (simp only [sp_kind, hva, hrb, hrd, ix_nI hld, Bool.and_self, Bool.and_true, Bool.and_false, Bool.false_and, Bool.true_and, Bool.false_eq_true, reduceIte]) <;> rfl) hG10
    | true =>
      obtain ⟨jb, hab, hbb, hlb, rfl⟩ := rI_t hrb
      cases hrd : rI d 0 9999 with
      | false =>
        refine lv_iload_n hx hb dX8_kind_0 rfl (lv_at hl 2 rfl) ?_
        refine n_iconst hx hb 0 dX8_kind_1 (by decide) ?_
        refine n_bipush hx hb 100 dX8_kind_2 (by decide) ?_
        refine m_rSi (As := [.int (nI jb), .int (nI 0), .int (nI 100)]) (rest := []) X Y hA hcx (c_m_isIn l D kc A e0 M (nI jb) 0 (nI 100)) (va_cwS 3 X.1.2.2.2.2 gX8_kind_X8_isIn rfl rfl rfl (by decide +kernel) ⟨Nat.le_of_ble_eq_true rfl, Nat.le_of_ble_eq_true rfl⟩) rfl rfl hl.1 (Nat.le_of_ble_eq_true rfl) dX8_kind_4 ⟨by decide, by decide⟩ (fun H locs Y => ?_)
        refine n_top (bN_c (isIn_rI (by decide) (by decide))) ?_
        refine n_top (bN_t hrb) ?_
        refine n_if_eq hx hb 25 (by omega) dX8_kind_7 (by decide) (fun zq => absurd zq (by decide)) (fun _ => ?_)
        refine lv_iload_n hx hb dX8_kind_10 rfl (lv_at hl 3 rfl) ?_
        refine n_iconst hx hb 0 dX8_kind_11 (by decide) ?_
        refine n_sipush hx hb 9999 dX8_kind_12 (by decide) ?_
        refine m_rSi (As := [.int d, .int (nI 0), .int (nI 9999)]) (rest := []) X Y hA hcx (c_m_isIn l D kc A e0 M d 0 (nI 9999)) (va_cwS 3 X.1.2.2.2.2 gX8_kind_X8_isIn rfl rfl rfl (by decide +kernel) ⟨Nat.le_of_ble_eq_true rfl, Nat.le_of_ble_eq_true rfl⟩) rfl rfl hl.1 (Nat.le_of_ble_eq_true rfl) dX8_kind_15 ⟨by decide, by decide⟩ (fun H locs Y => ?_)
        refine n_top (bN_c (isIn_rI (by decide) (by decide))) ?_
        refine n_top (bN_f (by rw [hrd]; decide)) ?_
        refine n_if_eq hx hb 25 (by omega) dX8_kind_18 (by decide) (fun _ => ?_) (fun zq => absurd zq (by decide))
        refine n_iconst hx hb 0 dX8_kind_25 (by decide) ?_
        refine lv_istore (lv' := [(4, .int (nI 0)), (0, .ref (g.1 11 0)), (1, .int a), (2, .int (nI jb)), (3, .int d)]) hx hb dX8_kind_26 hl (by decide) rfl (fun ls hl => ?_)
        refine lv_aload_n hx hb dX8_kind_28 rfl (lv_at hl 1 rfl) ?_
        refine lv_iload_n hx hb dX8_kind_29 rfl (lv_at hl 2 rfl) ?_
        refine m_rSi (As := [.int a]) (rest := [.ref (g.1 11 0)]) X Y hA hcx (c_m_isKind l D kc A e0 M a) (va_cwS 1 X.1.2.2.2.2 gX8_kind_X8_isKind rfl rfl rfl (by decide +kernel) ⟨Nat.le_of_ble_eq_true rfl, Nat.le_of_ble_eq_true rfl⟩) rfl rfl hl.1 (Nat.le_of_ble_eq_true rfl) dX8_kind_30 ⟨by decide, by decide⟩ (fun H locs Y => ?_)
        refine n_top (bN_f (by rw [hva]; decide)) ?_
        refine n_if_ne hx hb 40 (by omega) dX8_kind_33 (by decide) (fun zq => absurd zq (by decide)) (fun _ => ?_)
        refine n_iconst hx hb 1 dX8_kind_36 (by decide) ?_
        refine lv_goto (tgt := 50) hx hb dX8_kind_37 (by decide) ?_
        have hg11 := hG.f11 (hpr 11 (by decide))
        refine m_Vi (As := [.int (nI 1)]) (rest := []) X Y hA hcx (c_m_fails l D kc A e0 M hG hwf hpr 1 (by decide)) (cwV 1 X.1.2.2.2.2 gX8_kind_X8_fails rfl rfl rfl (by decide +kernel) ⟨Nat.le_of_ble_eq_true rfl, Nat.le_of_ble_eq_true rfl⟩) hg11 rfl rfl rfl hl.1 (Nat.le_of_ble_eq_true rfl) dX8_kind_50 ⟨by decide, by decide⟩ (fun r12 M13 H locs p14 Y => ?_)
        obtain ⟨hr9, hG15⟩ := p14
        refine n_top (hr9.trans (bN_t (by decide))) ?_
        refine n_if_eq hx hb 58 (by omega) dX8_kind_53 (by decide) (fun zq => absurd zq (by decide)) (fun _ => ?_)
        refine n_iconst hx hb 0 dX8_kind_56 (by decide) ?_
        refine m_iret X Y hr hlocks (by decide) (by decide) ?_ dX8_kind_57
        exact MC_i (c := 1) (by (simp only [sp_kind, hva, hrb, ix_nI hlb, hrd, Bool.and_self, Bool.and_true, Bool.and_false, Bool.false_and, Bool.true_and, Bool.false_eq_true, reduceIte]) <;> rfl) hG15
      | true =>
        obtain ⟨jd, had, hbd, hld, rfl⟩ := rI_t hrd
        refine lv_iload_n hx hb dX8_kind_0 rfl (lv_at hl 2 rfl) ?_
        refine n_iconst hx hb 0 dX8_kind_1 (by decide) ?_
        refine n_bipush hx hb 100 dX8_kind_2 (by decide) ?_
        refine m_rSi (As := [.int (nI jb), .int (nI 0), .int (nI 100)]) (rest := []) X Y hA hcx (c_m_isIn l D kc A e0 M (nI jb) 0 (nI 100)) (va_cwS 3 X.1.2.2.2.2 gX8_kind_X8_isIn rfl rfl rfl (by decide +kernel) ⟨Nat.le_of_ble_eq_true rfl, Nat.le_of_ble_eq_true rfl⟩) rfl rfl hl.1 (Nat.le_of_ble_eq_true rfl) dX8_kind_4 ⟨by decide, by decide⟩ (fun H locs Y => ?_)
        refine n_top (bN_c (isIn_rI (by decide) (by decide))) ?_
        refine n_top (bN_t hrb) ?_
        refine n_if_eq hx hb 25 (by omega) dX8_kind_7 (by decide) (fun zq => absurd zq (by decide)) (fun _ => ?_)
        refine lv_iload_n hx hb dX8_kind_10 rfl (lv_at hl 3 rfl) ?_
        refine n_iconst hx hb 0 dX8_kind_11 (by decide) ?_
        refine n_sipush hx hb 9999 dX8_kind_12 (by decide) ?_
        refine m_rSi (As := [.int (nI jd), .int (nI 0), .int (nI 9999)]) (rest := []) X Y hA hcx (c_m_isIn l D kc A e0 M (nI jd) 0 (nI 9999)) (va_cwS 3 X.1.2.2.2.2 gX8_kind_X8_isIn rfl rfl rfl (by decide +kernel) ⟨Nat.le_of_ble_eq_true rfl, Nat.le_of_ble_eq_true rfl⟩) rfl rfl hl.1 (Nat.le_of_ble_eq_true rfl) dX8_kind_15 ⟨by decide, by decide⟩ (fun H locs Y => ?_)
        refine n_top (bN_c (isIn_rI (by decide) (by decide))) ?_
        refine n_top (bN_t hrd) ?_
        refine n_if_eq hx hb 25 (by omega) dX8_kind_18 (by decide) (fun zq => absurd zq (by decide)) (fun _ => ?_)
        refine n_iconst hx hb 1 dX8_kind_21 (by decide) ?_
        refine lv_goto (tgt := 26) hx hb dX8_kind_22 (by decide) ?_
        refine lv_istore (lv' := [(4, .int (nI 1)), (0, .ref (g.1 11 0)), (1, .int a), (2, .int (nI jb)), (3, .int (nI jd))]) hx hb dX8_kind_26 hl (by decide) rfl (fun ls hl => ?_)
        refine lv_aload_n hx hb dX8_kind_28 rfl (lv_at hl 1 rfl) ?_
        refine lv_iload_n hx hb dX8_kind_29 rfl (lv_at hl 2 rfl) ?_
        refine m_rSi (As := [.int a]) (rest := [.ref (g.1 11 0)]) X Y hA hcx (c_m_isKind l D kc A e0 M a) (va_cwS 1 X.1.2.2.2.2 gX8_kind_X8_isKind rfl rfl rfl (by decide +kernel) ⟨Nat.le_of_ble_eq_true rfl, Nat.le_of_ble_eq_true rfl⟩) rfl rfl hl.1 (Nat.le_of_ble_eq_true rfl) dX8_kind_30 ⟨by decide, by decide⟩ (fun H locs Y => ?_)
        refine n_top (bN_f (by rw [hva]; decide)) ?_
        refine n_if_ne hx hb 40 (by omega) dX8_kind_33 (by decide) (fun zq => absurd zq (by decide)) (fun _ => ?_)
        refine n_iconst hx hb 1 dX8_kind_36 (by decide) ?_
        refine lv_goto (tgt := 50) hx hb dX8_kind_37 (by decide) ?_
        have hg16 := hG.f11 (hpr 11 (by decide))
        refine m_Vi (As := [.int (nI 1)]) (rest := []) X Y hA hcx (c_m_fails l D kc A e0 M hG hwf hpr 1 (by decide)) (cwV 1 X.1.2.2.2.2 gX8_kind_X8_fails rfl rfl rfl (by decide +kernel) ⟨Nat.le_of_ble_eq_true rfl, Nat.le_of_ble_eq_true rfl⟩) hg16 rfl rfl rfl hl.1 (Nat.le_of_ble_eq_true rfl) dX8_kind_50 ⟨by decide, by decide⟩ (fun r17 M18 H locs p19 Y => ?_)
        obtain ⟨hr9, hG20⟩ := p19
        refine n_top (hr9.trans (bN_t (by decide))) ?_
        refine n_if_eq hx hb 58 (by omega) dX8_kind_53 (by decide) (fun zq => absurd zq (by decide)) (fun _ => ?_)
        refine n_iconst hx hb 0 dX8_kind_56 (by decide) ?_
        refine m_iret X Y hr hlocks (by decide) (by decide) ?_ dX8_kind_57
        exact MC_i (c := 1) (by (simp only [sp_kind, hva, hrb, ix_nI hlb, hrd, ix_nI hld, Bool.and_self, Bool.and_true, Bool.and_false, Bool.false_and, Bool.true_and, Bool.false_eq_true, reduceIte]) <;> rfl) hG20
  | true =>
    obtain ⟨ja, hja, hla, rfl⟩ := vI_t hva
    cases hrb : rI b 0 100 with
    | false =>
      cases hrd : rI d 0 9999 with
      | false =>
        refine lv_iload_n hx hb dX8_kind_0 rfl (lv_at hl 2 rfl) ?_
        refine n_iconst hx hb 0 dX8_kind_1 (by decide) ?_
        refine n_bipush hx hb 100 dX8_kind_2 (by decide) ?_
        refine m_rSi (As := [.int b, .int (nI 0), .int (nI 100)]) (rest := []) X Y hA hcx (c_m_isIn l D kc A e0 M b 0 (nI 100)) (va_cwS 3 X.1.2.2.2.2 gX8_kind_X8_isIn rfl rfl rfl (by decide +kernel) ⟨Nat.le_of_ble_eq_true rfl, Nat.le_of_ble_eq_true rfl⟩) rfl rfl hl.1 (Nat.le_of_ble_eq_true rfl) dX8_kind_4 ⟨by decide, by decide⟩ (fun H locs Y => ?_)
        refine n_top (bN_c (isIn_rI (by decide) (by decide))) ?_
        refine n_top (bN_f (by rw [hrb]; decide)) ?_
        refine n_if_eq hx hb 25 (by omega) dX8_kind_7 (by decide) (fun _ => ?_) (fun zq => absurd zq (by decide))
        refine n_iconst hx hb 0 dX8_kind_25 (by decide) ?_
        refine lv_istore (lv' := [(4, .int (nI 0)), (0, .ref (g.1 11 0)), (1, .int (nI ja)), (2, .int b), (3, .int d)]) hx hb dX8_kind_26 hl (by decide) rfl (fun ls hl => ?_)
        refine lv_aload_n hx hb dX8_kind_28 rfl (lv_at hl 1 rfl) ?_
        refine lv_iload_n hx hb dX8_kind_29 rfl (lv_at hl 2 rfl) ?_
        refine m_rSi (As := [.int (nI ja)]) (rest := [.ref (g.1 11 0)]) X Y hA hcx (c_m_isKind l D kc A e0 M (nI ja)) (va_cwS 1 X.1.2.2.2.2 gX8_kind_X8_isKind rfl rfl rfl (by decide +kernel) ⟨Nat.le_of_ble_eq_true rfl, Nat.le_of_ble_eq_true rfl⟩) rfl rfl hl.1 (Nat.le_of_ble_eq_true rfl) dX8_kind_30 ⟨by decide, by decide⟩ (fun H locs Y => ?_)
        refine n_top (bN_t hva) ?_
        refine n_if_ne hx hb 40 (by omega) dX8_kind_33 (by decide) (fun _ => ?_) (fun zq => absurd zq (by decide))
        refine lv_iload hx hb dX8_kind_40 (lv_at hl 0 rfl) ?_
        refine n_if_eq hx hb 49 (by omega) dX8_kind_42 (by decide) (fun _ => ?_) (fun zq => absurd zq (by decide))
        refine n_iconst hx hb 2 dX8_kind_49 (by decide) ?_
        have hg21 := hG.f11 (hpr 11 (by decide))
        refine m_Vi (As := [.int (nI 2)]) (rest := []) X Y hA hcx (c_m_fails l D kc A e0 M hG hwf hpr 2 (by decide)) (cwV 1 X.1.2.2.2.2 gX8_kind_X8_fails rfl rfl rfl (by decide +kernel) ⟨Nat.le_of_ble_eq_true rfl, Nat.le_of_ble_eq_true rfl⟩) hg21 rfl rfl rfl hl.1 (Nat.le_of_ble_eq_true rfl) dX8_kind_50 ⟨by decide, by decide⟩ (fun r22 M23 H locs p24 Y => ?_)
        obtain ⟨hr9, hG25⟩ := p24
        refine n_top (hr9.trans (bN_t (by decide))) ?_
        refine n_if_eq hx hb 58 (by omega) dX8_kind_53 (by decide) (fun zq => absurd zq (by decide)) (fun _ => ?_)
        refine n_iconst hx hb 0 dX8_kind_56 (by decide) ?_
        refine m_iret X Y hr hlocks (by decide) (by decide) ?_ dX8_kind_57
        exact MC_i (c := 2) (by (simp only [sp_kind, hva, ix_nI hla, hrb, hrd, Bool.and_self, Bool.and_true, Bool.and_false, Bool.false_and, Bool.true_and, Bool.false_eq_true, reduceIte]) <;> rfl) hG25
      | true =>
        obtain ⟨jd, had, hbd, hld, rfl⟩ := rI_t hrd
        refine lv_iload_n hx hb dX8_kind_0 rfl (lv_at hl 2 rfl) ?_
        refine n_iconst hx hb 0 dX8_kind_1 (by decide) ?_
        refine n_bipush hx hb 100 dX8_kind_2 (by decide) ?_
        refine m_rSi (As := [.int b, .int (nI 0), .int (nI 100)]) (rest := []) X Y hA hcx (c_m_isIn l D kc A e0 M b 0 (nI 100)) (va_cwS 3 X.1.2.2.2.2 gX8_kind_X8_isIn rfl rfl rfl (by decide +kernel) ⟨Nat.le_of_ble_eq_true rfl, Nat.le_of_ble_eq_true rfl⟩) rfl rfl hl.1 (Nat.le_of_ble_eq_true rfl) dX8_kind_4 ⟨by decide, by decide⟩ (fun H locs Y => ?_)
        refine n_top (bN_c (isIn_rI (by decide) (by decide))) ?_
        refine n_top (bN_f (by rw [hrb]; decide)) ?_
        refine n_if_eq hx hb 25 (by omega) dX8_kind_7 (by decide) (fun _ => ?_) (fun zq => absurd zq (by decide))
        refine n_iconst hx hb 0 dX8_kind_25 (by decide) ?_
        refine lv_istore (lv' := [(4, .int (nI 0)), (0, .ref (g.1 11 0)), (1, .int (nI ja)), (2, .int b), (3, .int (nI jd))]) hx hb dX8_kind_26 hl (by decide) rfl (fun ls hl => ?_)
        refine lv_aload_n hx hb dX8_kind_28 rfl (lv_at hl 1 rfl) ?_
        refine lv_iload_n hx hb dX8_kind_29 rfl (lv_at hl 2 rfl) ?_
        refine m_rSi (As := [.int (nI ja)]) (rest := [.ref (g.1 11 0)]) X Y hA hcx (c_m_isKind l D kc A e0 M (nI ja)) (va_cwS 1 X.1.2.2.2.2 gX8_kind_X8_isKind rfl rfl rfl (by decide +kernel) ⟨Nat.le_of_ble_eq_true rfl, Nat.le_of_ble_eq_true rfl⟩) rfl rfl hl.1 (Nat.le_of_ble_eq_true rfl) dX8_kind_30 ⟨by decide, by decide⟩ (fun H locs Y => ?_)
        refine n_top (bN_t hva) ?_
        refine n_if_ne hx hb 40 (by omega) dX8_kind_33 (by decide) (fun _ => ?_) (fun zq => absurd zq (by decide))
        refine lv_iload hx hb dX8_kind_40 (lv_at hl 0 rfl) ?_
        refine n_if_eq hx hb 49 (by omega) dX8_kind_42 (by decide) (fun _ => ?_) (fun zq => absurd zq (by decide))
        refine n_iconst hx hb 2 dX8_kind_49 (by decide) ?_
        have hg26 := hG.f11 (hpr 11 (by decide))
        refine m_Vi (As := [.int (nI 2)]) (rest := []) X Y hA hcx (c_m_fails l D kc A e0 M hG hwf hpr 2 (by decide)) (cwV 1 X.1.2.2.2.2 gX8_kind_X8_fails rfl rfl rfl (by decide +kernel) ⟨Nat.le_of_ble_eq_true rfl, Nat.le_of_ble_eq_true rfl⟩) hg26 rfl rfl rfl hl.1 (Nat.le_of_ble_eq_true rfl) dX8_kind_50 ⟨by decide, by decide⟩ (fun r27 M28 H locs p29 Y => ?_)
        obtain ⟨hr9, hG30⟩ := p29
        refine n_top (hr9.trans (bN_t (by decide))) ?_
        refine n_if_eq hx hb 58 (by omega) dX8_kind_53 (by decide) (fun zq => absurd zq (by decide)) (fun _ => ?_)
        refine n_iconst hx hb 0 dX8_kind_56 (by decide) ?_
        refine m_iret X Y hr hlocks (by decide) (by decide) ?_ dX8_kind_57
        exact MC_i (c := 2) (by (simp only [sp_kind, hva, ix_nI hla, hrb, hrd, ix_nI hld, Bool.and_self, Bool.and_true, Bool.and_false, Bool.false_and, Bool.true_and, Bool.false_eq_true, reduceIte]) <;> rfl) hG30
    | true =>
      obtain ⟨jb, hab, hbb, hlb, rfl⟩ := rI_t hrb
      cases hrd : rI d 0 9999 with
      | false =>
        refine lv_iload_n hx hb dX8_kind_0 rfl (lv_at hl 2 rfl) ?_
        refine n_iconst hx hb 0 dX8_kind_1 (by decide) ?_
        refine n_bipush hx hb 100 dX8_kind_2 (by decide) ?_
        refine m_rSi (As := [.int (nI jb), .int (nI 0), .int (nI 100)]) (rest := []) X Y hA hcx (c_m_isIn l D kc A e0 M (nI jb) 0 (nI 100)) (va_cwS 3 X.1.2.2.2.2 gX8_kind_X8_isIn rfl rfl rfl (by decide +kernel) ⟨Nat.le_of_ble_eq_true rfl, Nat.le_of_ble_eq_true rfl⟩) rfl rfl hl.1 (Nat.le_of_ble_eq_true rfl) dX8_kind_4 ⟨by decide, by decide⟩ (fun H locs Y => ?_)
        refine n_top (bN_c (isIn_rI (by decide) (by decide))) ?_
        refine n_top (bN_t hrb) ?_
        refine n_if_eq hx hb 25 (by omega) dX8_kind_7 (by decide) (fun zq => absurd zq (by decide)) (fun _ => ?_)
        refine lv_iload_n hx hb dX8_kind_10 rfl (lv_at hl 3 rfl) ?_
        refine n_iconst hx hb 0 dX8_kind_11 (by decide) ?_
        refine n_sipush hx hb 9999 dX8_kind_12 (by decide) ?_
        refine m_rSi (As := [.int d, .int (nI 0), .int (nI 9999)]) (rest := []) X Y hA hcx (c_m_isIn l D kc A e0 M d 0 (nI 9999)) (va_cwS 3 X.1.2.2.2.2 gX8_kind_X8_isIn rfl rfl rfl (by decide +kernel) ⟨Nat.le_of_ble_eq_true rfl, Nat.le_of_ble_eq_true rfl⟩) rfl rfl hl.1 (Nat.le_of_ble_eq_true rfl) dX8_kind_15 ⟨by decide, by decide⟩ (fun H locs Y => ?_)
        refine n_top (bN_c (isIn_rI (by decide) (by decide))) ?_
        refine n_top (bN_f (by rw [hrd]; decide)) ?_
        refine n_if_eq hx hb 25 (by omega) dX8_kind_18 (by decide) (fun _ => ?_) (fun zq => absurd zq (by decide))
        refine n_iconst hx hb 0 dX8_kind_25 (by decide) ?_
        refine lv_istore (lv' := [(4, .int (nI 0)), (0, .ref (g.1 11 0)), (1, .int (nI ja)), (2, .int (nI jb)), (3, .int d)]) hx hb dX8_kind_26 hl (by decide) rfl (fun ls hl => ?_)
        refine lv_aload_n hx hb dX8_kind_28 rfl (lv_at hl 1 rfl) ?_
        refine lv_iload_n hx hb dX8_kind_29 rfl (lv_at hl 2 rfl) ?_
        refine m_rSi (As := [.int (nI ja)]) (rest := [.ref (g.1 11 0)]) X Y hA hcx (c_m_isKind l D kc A e0 M (nI ja)) (va_cwS 1 X.1.2.2.2.2 gX8_kind_X8_isKind rfl rfl rfl (by decide +kernel) ⟨Nat.le_of_ble_eq_true rfl, Nat.le_of_ble_eq_true rfl⟩) rfl rfl hl.1 (Nat.le_of_ble_eq_true rfl) dX8_kind_30 ⟨by decide, by decide⟩ (fun H locs Y => ?_)
        refine n_top (bN_t hva) ?_
        refine n_if_ne hx hb 40 (by omega) dX8_kind_33 (by decide) (fun _ => ?_) (fun zq => absurd zq (by decide))
        refine lv_iload hx hb dX8_kind_40 (lv_at hl 0 rfl) ?_
        refine n_if_eq hx hb 49 (by omega) dX8_kind_42 (by decide) (fun _ => ?_) (fun zq => absurd zq (by decide))
        refine n_iconst hx hb 2 dX8_kind_49 (by decide) ?_
        have hg31 := hG.f11 (hpr 11 (by decide))
        refine m_Vi (As := [.int (nI 2)]) (rest := []) X Y hA hcx (c_m_fails l D kc A e0 M hG hwf hpr 2 (by decide)) (cwV 1 X.1.2.2.2.2 gX8_kind_X8_fails rfl rfl rfl (by decide +kernel) ⟨Nat.le_of_ble_eq_true rfl, Nat.le_of_ble_eq_true rfl⟩) hg31 rfl rfl rfl hl.1 (Nat.le_of_ble_eq_true rfl) dX8_kind_50 ⟨by decide, by decide⟩ (fun r32 M33 H locs p34 Y => ?_)
        obtain ⟨hr9, hG35⟩ := p34
        refine n_top (hr9.trans (bN_t (by decide))) ?_
        refine n_if_eq hx hb 58 (by omega) dX8_kind_53 (by decide) (fun zq => absurd zq (by decide)) (fun _ => ?_)
        refine n_iconst hx hb 0 dX8_kind_56 (by decide) ?_
        refine m_iret X Y hr hlocks (by decide) (by decide) ?_ dX8_kind_57
        exact MC_i (c := 2) (by (simp only [sp_kind, hva, ix_nI hla, hrb, ix_nI hlb, hrd, Bool.and_self, Bool.and_true, Bool.and_false, Bool.false_and, Bool.true_and, Bool.false_eq_true, reduceIte]) <;> rfl) hG35
      | true =>
        obtain ⟨jd, had, hbd, hld, rfl⟩ := rI_t hrd
        refine lv_iload_n hx hb dX8_kind_0 rfl (lv_at hl 2 rfl) ?_
        refine n_iconst hx hb 0 dX8_kind_1 (by decide) ?_
        refine n_bipush hx hb 100 dX8_kind_2 (by decide) ?_
        refine m_rSi (As := [.int (nI jb), .int (nI 0), .int (nI 100)]) (rest := []) X Y hA hcx (c_m_isIn l D kc A e0 M (nI jb) 0 (nI 100)) (va_cwS 3 X.1.2.2.2.2 gX8_kind_X8_isIn rfl rfl rfl (by decide +kernel) ⟨Nat.le_of_ble_eq_true rfl, Nat.le_of_ble_eq_true rfl⟩) rfl rfl hl.1 (Nat.le_of_ble_eq_true rfl) dX8_kind_4 ⟨by decide, by decide⟩ (fun H locs Y => ?_)
        refine n_top (bN_c (isIn_rI (by decide) (by decide))) ?_
        refine n_top (bN_t hrb) ?_
        refine n_if_eq hx hb 25 (by omega) dX8_kind_7 (by decide) (fun zq => absurd zq (by decide)) (fun _ => ?_)
        refine lv_iload_n hx hb dX8_kind_10 rfl (lv_at hl 3 rfl) ?_
        refine n_iconst hx hb 0 dX8_kind_11 (by decide) ?_
        refine n_sipush hx hb 9999 dX8_kind_12 (by decide) ?_
        refine m_rSi (As := [.int (nI jd), .int (nI 0), .int (nI 9999)]) (rest := []) X Y hA hcx (c_m_isIn l D kc A e0 M (nI jd) 0 (nI 9999)) (va_cwS 3 X.1.2.2.2.2 gX8_kind_X8_isIn rfl rfl rfl (by decide +kernel) ⟨Nat.le_of_ble_eq_true rfl, Nat.le_of_ble_eq_true rfl⟩) rfl rfl hl.1 (Nat.le_of_ble_eq_true rfl) dX8_kind_15 ⟨by decide, by decide⟩ (fun H locs Y => ?_)
        refine n_top (bN_c (isIn_rI (by decide) (by decide))) ?_
        refine n_top (bN_t hrd) ?_
        refine n_if_eq hx hb 25 (by omega) dX8_kind_18 (by decide) (fun zq => absurd zq (by decide)) (fun _ => ?_)
        refine n_iconst hx hb 1 dX8_kind_21 (by decide) ?_
        refine lv_goto (tgt := 26) hx hb dX8_kind_22 (by decide) ?_
        refine lv_istore (lv' := [(4, .int (nI 1)), (0, .ref (g.1 11 0)), (1, .int (nI ja)), (2, .int (nI jb)), (3, .int (nI jd))]) hx hb dX8_kind_26 hl (by decide) rfl (fun ls hl => ?_)
        refine lv_aload_n hx hb dX8_kind_28 rfl (lv_at hl 1 rfl) ?_
        refine lv_iload_n hx hb dX8_kind_29 rfl (lv_at hl 2 rfl) ?_
        refine m_rSi (As := [.int (nI ja)]) (rest := [.ref (g.1 11 0)]) X Y hA hcx (c_m_isKind l D kc A e0 M (nI ja)) (va_cwS 1 X.1.2.2.2.2 gX8_kind_X8_isKind rfl rfl rfl (by decide +kernel) ⟨Nat.le_of_ble_eq_true rfl, Nat.le_of_ble_eq_true rfl⟩) rfl rfl hl.1 (Nat.le_of_ble_eq_true rfl) dX8_kind_30 ⟨by decide, by decide⟩ (fun H locs Y => ?_)
        refine n_top (bN_t hva) ?_
        refine n_if_ne hx hb 40 (by omega) dX8_kind_33 (by decide) (fun _ => ?_) (fun zq => absurd zq (by decide))
        refine lv_iload hx hb dX8_kind_40 (lv_at hl 0 rfl) ?_
        refine n_if_eq hx hb 49 (by omega) dX8_kind_42 (by decide) (fun zq => absurd zq (by decide)) (fun _ => ?_)
        refine n_iconst hx hb 0 dX8_kind_45 (by decide) ?_
        refine lv_goto (tgt := 50) hx hb dX8_kind_46 (by decide) ?_
        have hg36 := hG.f11 (hpr 11 (by decide))
        refine m_Vi (As := [.int (nI 0)]) (rest := []) X Y hA hcx (c_m_fails l D kc A e0 M hG hwf hpr 0 (by decide)) (cwV 1 X.1.2.2.2.2 gX8_kind_X8_fails rfl rfl rfl (by decide +kernel) ⟨Nat.le_of_ble_eq_true rfl, Nat.le_of_ble_eq_true rfl⟩) hg36 rfl rfl rfl hl.1 (Nat.le_of_ble_eq_true rfl) dX8_kind_50 ⟨by decide, by decide⟩ (fun r37 M38 H locs p39 Y => ?_)
        obtain ⟨hr9, hG40⟩ := p39
        refine n_top (hr9.trans (bN_f (by decide))) ?_
        refine n_if_eq hx hb 58 (by omega) dX8_kind_53 (by decide) (fun _ => ?_) (fun zq => absurd zq (by decide))
        refine lv_aload_n hx hb dX8_kind_58 rfl (lv_at hl 1 rfl) ?_
        have hg41 := hG40.f11 (hpr 11 (by decide))
        refine m_get (ref := "CardPortModel") (C := RX8) (T := TX8) (N := 25) (ci := 9) X Y htX8_kind_wsX801 hg41 rfl 2 (by decide) kwX8_kind_1 rfl (v := .ref (g.1 12 2)) rfl dX8_kind_59 ?_
        refine lv_iload_n hx hb dX8_kind_62 rfl (lv_at hl 2 rfl) ?_
        refine lv_iload_n hx hb dX8_kind_63 rfl (lv_at hl 3 rfl) ?_
        refine g_iast X Y hG40 (hpr 12 (by decide)) (k := 2) (by decide) (j := ja) (v := jb) (show ja < 3 by omega) dX8_kind_64 (fun M42 H locs hG43 Y => ?_)
        refine lv_aload_n hx hb dX8_kind_65 rfl (lv_at hl 1 rfl) ?_
        have hg44 := hG43.f11 (hpr 11 (by decide))
        refine m_get (ref := "CardPortModel") (C := RX8) (T := TX8) (N := 25) (ci := 9) X Y htX8_kind_wsX801 hg44 rfl 3 (by decide) kwX8_kind_2 rfl (v := .ref (g.1 12 3)) rfl dX8_kind_66 ?_
        refine lv_iload_n hx hb dX8_kind_69 rfl (lv_at hl 2 rfl) ?_
        refine lv_iload_n hx hb dX8_kind_70 rfl (lv_at hl 4 rfl) ?_
        refine g_iast X Y hG43 (hpr 12 (by decide)) (k := 3) (by decide) (j := ja) (v := jd) (show ja < 3 by omega) dX8_kind_71 (fun M45 H locs hG46 Y => ?_)
        refine lv_aload_n hx hb dX8_kind_72 rfl (lv_at hl 1 rfl) ?_
        refine lv_iload_n hx hb dX8_kind_73 rfl (lv_at hl 2 rfl) ?_
        refine n_sipush hx hb 10000 dX8_kind_74 (by decide) ?_
        have hg47 := hG46.f11 (hpr 11 (by decide))
        refine m_rVi (As := [.int (nI ja), .int (nI 10000)]) (rest := []) X Y hA hcx (c_m_feeOf l D kc A e0 M45 hG46 hpr ja 10000 (by omega) (by decide) (by simp [up2]; omega) (by simp [up2]; omega) (by simp [up2]; omega)) (cwV 2 X.1.2.2.2.2 gX8_kind_X8_feeOf rfl rfl rfl (by decide +kernel) ⟨Nat.le_of_ble_eq_true rfl, Nat.le_of_ble_eq_true rfl⟩) hg47 rfl rfl rfl hl.1 (Nat.le_of_ble_eq_true rfl) dX8_kind_77 ⟨by decide, by decide⟩ (fun H locs Y => ?_)
        refine m_iret X Y hr hlocks (by decide) (by decide) ?_ dX8_kind_80
        exact MC_i (c := 0) (by (simp only [sp_kind, hva, ix_nI hla, hrb, ix_nI hlb, hrd, ix_nI hld, Bool.and_self, Bool.and_true, Bool.and_false, Bool.false_and, Bool.true_and, Bool.false_eq_true, reduceIte]; simp [up2]) <;> rfl) hG46
theorem kwX8_authorise_1 : Cond.fieldLink RX8 107 "CardPortModel" "payments" "I" ∈ wsX8_authorise := List.mem_of_getElem? (i := 1) rfl
theorem htX8_authorise_wsX801 : ∀ w ∈ wsX80, w ∈ wsX8_authorise := fun _ h => List.mem_cons_of_mem _ (List.mem_append_right _ h)
theorem kwX8_authorise_2 : Cond.fieldLink RX8 19 "CardPortModel" "card" "[I" ∈ wsX8_authorise := List.mem_of_getElem? (i := 2) rfl
theorem kwX8_authorise_3 : Cond.fieldLink RX8 22 "CardPortModel" "shop" "[I" ∈ wsX8_authorise := List.mem_of_getElem? (i := 3) rfl
theorem kwX8_authorise_4 : Cond.fieldLink RX8 25 "CardPortModel" "amount" "[I" ∈ wsX8_authorise := List.mem_of_getElem? (i := 4) rfl
theorem kwX8_authorise_5 : Cond.fieldLink RX8 31 "CardPortModel" "last" "[I" ∈ wsX8_authorise := List.mem_of_getElem? (i := 5) rfl
theorem kwX8_authorise_6 : Cond.fieldLink RX8 114 "CardPortModel" "day" "I" ∈ wsX8_authorise := List.mem_of_getElem? (i := 6) rfl
set_option maxHeartbeats 4000000 in
set_option maxRecDepth 100000 in
theorem c_X8_authorise (l : Launch) (D : va_G) (kc : Nat → ClassId) (A : Nat → Prop) (e0 : Nat × Nat) (M : Mp) {pr : Nat → Prop} {σ τ : Sg} {th : Int32} {o : Int64} {g : Gh} {nn : Nat} (hG : G pr kc e0 σ τ th o g M) (hwf : WS nn τ) (hpr : ∀ t, t ≤ 13 → pr t) (a b d : Int32) : Met l yX8_authorise wsX8_authorise ({ frames := 2, cells := 0, slots := 0, locals := 42 }) (mPre D kc A e0 M [.ref (g.1 11 0), .int a, .int b, .int d]) (va_Qi (MC pr kc e0 σ o g (sp_authorise τ a b d)) (mB D A) A) 0 0 A := by
  refine Met.ofW (cc := cX8_authorise) (maxL := 5) (ret := (some .int)) (by decide) rfl ?_
  intro p e s m args below meth c s₁ B hml hv
  obtain ⟨rfl, hw, hK, hA, hcx⟩ := hv
  have X : mX p s m _ c cX8_authorise 5 RX8 wsX8_authorise D kc := ⟨⟨B.exec, B.bytes, hml, findClass_of_methodNamed B.named, atoms_spec (ws := wsX8_authorise) B.pre⟩, hK⟩
  have hx := B.exec
  have hb := B.bytes
  have hr := B.returns
  have hlocks := B.notSynchronized
  have Y : mY D A M s s.heap [] := ⟨hw, va_S.rf⟩
  have hl := lv_entry ([.ref (g.1 11 0), .int a, .int b, .int d]) (n := 5) (Nat.le_of_ble_eq_true rfl)
  rw [lg_entry_eq]
  generalize (lg_sl ([.ref (g.1 11 0), .int a, .int b, .int d]) ++ List.replicate (5 - (lg_sl ([.ref (g.1 11 0), .int a, .int b, .int d])).length) Slot.unset).toArray = ls at hl ⊢
  have hl : lv_has ls 5 [(0, .ref (g.1 11 0)), (1, .int a), (2, .int b), (3, .int d)] := hl
  have hwn := hwf.2.2.2.1
  have hwd := hwf.1
  cases hva : vI a 12 with
  | false =>
    cases hvb : vI b 8 with
    | false =>
      cases hrd : rI d 1 100000 with
      | false =>
        refine lv_iload_n hx hb dX8_authorise_0 rfl (lv_at hl 1 rfl) ?_
        refine m_rSi (As := [.int a]) (rest := []) X Y hA hcx (c_m_isCard l D kc A e0 M a) (va_cwS 1 X.1.2.2.2.2 gX8_authorise_X8_isCard rfl rfl rfl (by decide +kernel) ⟨Nat.le_of_ble_eq_true rfl, Nat.le_of_ble_eq_true rfl⟩) rfl rfl hl.1 (Nat.le_of_ble_eq_true rfl) dX8_authorise_1 ⟨by decide, by decide⟩ (fun H locs Y => ?_)
        refine n_top (bN_f (by rw [hva]; decide)) ?_
        refine n_if_eq hx hb 18 (by omega) dX8_authorise_4 (by decide) (fun _ => ?_) (fun zq => absurd zq (by decide))
        refine n_iconst hx hb 0 dX8_authorise_18 (by decide) ?_
        refine lv_istore (lv' := [(4, .int (nI 0)), (0, .ref (g.1 11 0)), (1, .int a), (2, .int b), (3, .int d)]) hx hb dX8_authorise_19 hl (by decide) rfl (fun ls hl => ?_)
        refine lv_aload_n hx hb dX8_authorise_21 rfl (lv_at hl 1 rfl) ?_
        refine lv_iload hx hb dX8_authorise_22 (lv_at hl 0 rfl) ?_
        refine n_if_ne hx hb 31 (by omega) dX8_authorise_24 (by decide) (fun zq => absurd zq (by decide)) (fun _ => ?_)
        refine n_iconst hx hb 1 dX8_authorise_27 (by decide) ?_
        refine lv_goto (tgt := 56) hx hb dX8_authorise_28 (by decide) ?_
        have hg1 := hG.f11 (hpr 11 (by decide))
        refine m_Vi (As := [.int (nI 1)]) (rest := []) X Y hA hcx (c_m_fails l D kc A e0 M hG hwf hpr 1 (by decide)) (cwV 1 X.1.2.2.2.2 gX8_authorise_X8_fails rfl rfl rfl (by decide +kernel) ⟨Nat.le_of_ble_eq_true rfl, Nat.le_of_ble_eq_true rfl⟩) hg1 rfl rfl rfl hl.1 (Nat.le_of_ble_eq_true rfl) dX8_authorise_56 ⟨by decide, by decide⟩ (fun r2 M3 H locs p4 Y => ?_)
        obtain ⟨hr9, hG5⟩ := p4
        refine n_top (hr9.trans (bN_t (by decide))) ?_
        refine n_if_eq hx hb 64 (by omega) dX8_authorise_59 (by decide) (fun zq => absurd zq (by decide)) (fun _ => ?_)
        refine n_iconst hx hb 0 dX8_authorise_62 (by decide) ?_
        refine m_iret X Y hr hlocks (by decide) (by decide) ?_ dX8_authorise_63
        exact MC_i (c := 1) (by (simp only [sp_authorise, hva, hvb, hrd, Bool.and_self, Bool.and_true, Bool.and_false, Bool.false_and, Bool.true_and, Bool.false_eq_true, reduceIte]) <;> rfl) hG5
      | true =>
        obtain ⟨jd, had, hbd, hld, rfl⟩ := rI_t hrd
        refine lv_iload_n hx hb dX8_authorise_0 rfl (lv_at hl 1 rfl) ?_
        refine m_rSi (As := [.int a]) (rest := []) X Y hA hcx (c_m_isCard l D kc A e0 M a) (va_cwS 1 X.1.2.2.2.2 gX8_authorise_X8_isCard rfl rfl rfl (by decide +kernel) ⟨Nat.le_of_ble_eq_true rfl, Nat.le_of_ble_eq_true rfl⟩) rfl rfl hl.1 (Nat.le_of_ble_eq_true rfl) dX8_authorise_1 ⟨by decide, by decide⟩ (fun H locs Y => ?_)
        refine n_top (bN_f (by rw [hva]; decide)) ?_
        refine n_if_eq hx hb 18 (by omega) dX8_authorise_4 (by decide) (fun _ => ?_) (fun zq => absurd zq (by decide))
        refine n_iconst hx hb 0 dX8_authorise_18 (by decide) ?_
        refine lv_istore (lv' := [(4, .int (nI 0)), (0, .ref (g.1 11 0)), (1, .int a), (2, .int b), (3, .int (nI jd))]) hx hb dX8_authorise_19 hl (by decide) rfl (fun ls hl => ?_)
        refine lv_aload_n hx hb dX8_authorise_21 rfl (lv_at hl 1 rfl) ?_
        refine lv_iload hx hb dX8_authorise_22 (lv_at hl 0 rfl) ?_
        refine n_if_ne hx hb 31 (by omega) dX8_authorise_24 (by decide) (fun zq => absurd zq (by decide)) (fun _ => ?_)
        refine n_iconst hx hb 1 dX8_authorise_27 (by decide) ?_
        refine lv_goto (tgt := 56) hx hb dX8_authorise_28 (by decide) ?_
        have hg6 := hG.f11 (hpr 11 (by decide))
        refine m_Vi (As := [.int (nI 1)]) (rest := []) X Y hA hcx (c_m_fails l D kc A e0 M hG hwf hpr 1 (by decide)) (cwV 1 X.1.2.2.2.2 gX8_authorise_X8_fails rfl rfl rfl (by decide +kernel) ⟨Nat.le_of_ble_eq_true rfl, Nat.le_of_ble_eq_true rfl⟩) hg6 rfl rfl rfl hl.1 (Nat.le_of_ble_eq_true rfl) dX8_authorise_56 ⟨by decide, by decide⟩ (fun r7 M8 H locs p9 Y => ?_)
        obtain ⟨hr9, hG10⟩ := p9
        refine n_top (hr9.trans (bN_t (by decide))) ?_
        refine n_if_eq hx hb 64 (by omega) dX8_authorise_59 (by decide) (fun zq => absurd zq (by decide)) (fun _ => ?_)
        refine n_iconst hx hb 0 dX8_authorise_62 (by decide) ?_
        refine m_iret X Y hr hlocks (by decide) (by decide) ?_ dX8_authorise_63
        exact MC_i (c := 1) (by (simp only [sp_authorise, hva, hvb, hrd, ix_nI hld, Bool.and_self, Bool.and_true, Bool.and_false, Bool.false_and, Bool.true_and, Bool.false_eq_true, reduceIte]) <;> rfl) hG10
    | true =>
      obtain ⟨jb, hjb, hlb, rfl⟩ := vI_t hvb
      cases hrd : rI d 1 100000 with
      | false =>
        refine lv_iload_n hx hb dX8_authorise_0 rfl (lv_at hl 1 rfl) ?_
        refine m_rSi (As := [.int a]) (rest := []) X Y hA hcx (c_m_isCard l D kc A e0 M a) (va_cwS 1 X.1.2.2.2.2 gX8_authorise_X8_isCard rfl rfl rfl (by decide +kernel) ⟨Nat.le_of_ble_eq_true rfl, Nat.le_of_ble_eq_true rfl⟩) rfl rfl hl.1 (Nat.le_of_ble_eq_true rfl) dX8_authorise_1 ⟨by decide, by decide⟩ (fun H locs Y => ?_)
        refine n_top (bN_f (by rw [hva]; decide)) ?_
        refine n_if_eq hx hb 18 (by omega) dX8_authorise_4 (by decide) (fun _ => ?_) (fun zq => absurd zq (by decide))
        refine n_iconst hx hb 0 dX8_authorise_18 (by decide) ?_
        refine lv_istore (lv' := [(4, .int (nI 0)), (0, .ref (g.1 11 0)), (1, .int a), (2, .int (nI jb)), (3, .int d)]) hx hb dX8_authorise_19 hl (by decide) rfl (fun ls hl => ?_)
        refine lv_aload_n hx hb dX8_authorise_21 rfl (lv_at hl 1 rfl) ?_
        refine lv_iload hx hb dX8_authorise_22 (lv_at hl 0 rfl) ?_
        refine n_if_ne hx hb 31 (by omega) dX8_authorise_24 (by decide) (fun zq => absurd zq (by decide)) (fun _ => ?_)
        refine n_iconst hx hb 1 dX8_authorise_27 (by decide) ?_
        refine lv_goto (tgt := 56) hx hb dX8_authorise_28 (by decide) ?_
        have hg11 := hG.f11 (hpr 11 (by decide))
        refine m_Vi (As := [.int (nI 1)]) (rest := []) X Y hA hcx (c_m_fails l D kc A e0 M hG hwf hpr 1 (by decide)) (cwV 1 X.1.2.2.2.2 gX8_authorise_X8_fails rfl rfl rfl (by decide +kernel) ⟨Nat.le_of_ble_eq_true rfl, Nat.le_of_ble_eq_true rfl⟩) hg11 rfl rfl rfl hl.1 (Nat.le_of_ble_eq_true rfl) dX8_authorise_56 ⟨by decide, by decide⟩ (fun r12 M13 H locs p14 Y => ?_)
        obtain ⟨hr9, hG15⟩ := p14
        refine n_top (hr9.trans (bN_t (by decide))) ?_
        refine n_if_eq hx hb 64 (by omega) dX8_authorise_59 (by decide) (fun zq => absurd zq (by decide)) (fun _ => ?_)
        refine n_iconst hx hb 0 dX8_authorise_62 (by decide) ?_
        refine m_iret X Y hr hlocks (by decide) (by decide) ?_ dX8_authorise_63
        exact MC_i (c := 1) (by (simp only [sp_authorise, hva, hvb, ix_nI hlb, hrd, Bool.and_self, Bool.and_true, Bool.and_false, Bool.false_and, Bool.true_and, Bool.false_eq_true, reduceIte]) <;> rfl) hG15
      | true =>
        obtain ⟨jd, had, hbd, hld, rfl⟩ := rI_t hrd
        refine lv_iload_n hx hb dX8_authorise_0 rfl (lv_at hl 1 rfl) ?_
        refine m_rSi (As := [.int a]) (rest := []) X Y hA hcx (c_m_isCard l D kc A e0 M a) (va_cwS 1 X.1.2.2.2.2 gX8_authorise_X8_isCard rfl rfl rfl (by decide +kernel) ⟨Nat.le_of_ble_eq_true rfl, Nat.le_of_ble_eq_true rfl⟩) rfl rfl hl.1 (Nat.le_of_ble_eq_true rfl) dX8_authorise_1 ⟨by decide, by decide⟩ (fun H locs Y => ?_)
        refine n_top (bN_f (by rw [hva]; decide)) ?_
        refine n_if_eq hx hb 18 (by omega) dX8_authorise_4 (by decide) (fun _ => ?_) (fun zq => absurd zq (by decide))
        refine n_iconst hx hb 0 dX8_authorise_18 (by decide) ?_
        refine lv_istore (lv' := [(4, .int (nI 0)), (0, .ref (g.1 11 0)), (1, .int a), (2, .int (nI jb)), (3, .int (nI jd))]) hx hb dX8_authorise_19 hl (by decide) rfl (fun ls hl => ?_)
        refine lv_aload_n hx hb dX8_authorise_21 rfl (lv_at hl 1 rfl) ?_
        refine lv_iload hx hb dX8_authorise_22 (lv_at hl 0 rfl) ?_
        refine n_if_ne hx hb 31 (by omega) dX8_authorise_24 (by decide) (fun zq => absurd zq (by decide)) (fun _ => ?_)
        refine n_iconst hx hb 1 dX8_authorise_27 (by decide) ?_
        refine lv_goto (tgt := 56) hx hb dX8_authorise_28 (by decide) ?_
        have hg16 := hG.f11 (hpr 11 (by decide))
        refine m_Vi (As := [.int (nI 1)]) (rest := []) X Y hA hcx (c_m_fails l D kc A e0 M hG hwf hpr 1 (by decide)) (cwV 1 X.1.2.2.2.2 gX8_authorise_X8_fails rfl rfl rfl (by decide +kernel) ⟨Nat.le_of_ble_eq_true rfl, Nat.le_of_ble_eq_true rfl⟩) hg16 rfl rfl rfl hl.1 (Nat.le_of_ble_eq_true rfl) dX8_authorise_56 ⟨by decide, by decide⟩ (fun r17 M18 H locs p19 Y => ?_)
        obtain ⟨hr9, hG20⟩ := p19
        refine n_top (hr9.trans (bN_t (by decide))) ?_
        refine n_if_eq hx hb 64 (by omega) dX8_authorise_59 (by decide) (fun zq => absurd zq (by decide)) (fun _ => ?_)
        refine n_iconst hx hb 0 dX8_authorise_62 (by decide) ?_
        refine m_iret X Y hr hlocks (by decide) (by decide) ?_ dX8_authorise_63
        exact MC_i (c := 1) (by (simp only [sp_authorise, hva, hvb, ix_nI hlb, hrd, ix_nI hld, Bool.and_self, Bool.and_true, Bool.and_false, Bool.false_and, Bool.true_and, Bool.false_eq_true, reduceIte]) <;> rfl) hG20
  | true =>
    obtain ⟨ja, hja, hla, rfl⟩ := vI_t hva
    cases hvb : vI b 8 with
    | false =>
      cases hrd : rI d 1 100000 with
      | false =>
        refine lv_iload_n hx hb dX8_authorise_0 rfl (lv_at hl 1 rfl) ?_
        refine m_rSi (As := [.int (nI ja)]) (rest := []) X Y hA hcx (c_m_isCard l D kc A e0 M (nI ja)) (va_cwS 1 X.1.2.2.2.2 gX8_authorise_X8_isCard rfl rfl rfl (by decide +kernel) ⟨Nat.le_of_ble_eq_true rfl, Nat.le_of_ble_eq_true rfl⟩) rfl rfl hl.1 (Nat.le_of_ble_eq_true rfl) dX8_authorise_1 ⟨by decide, by decide⟩ (fun H locs Y => ?_)
        refine n_top (bN_t hva) ?_
        refine n_if_eq hx hb 18 (by omega) dX8_authorise_4 (by decide) (fun zq => absurd zq (by decide)) (fun _ => ?_)
        refine lv_iload_n hx hb dX8_authorise_7 rfl (lv_at hl 2 rfl) ?_
        refine m_rSi (As := [.int b]) (rest := []) X Y hA hcx (c_m_isShop l D kc A e0 M b) (va_cwS 1 X.1.2.2.2.2 gX8_authorise_X8_isShop rfl rfl rfl (by decide +kernel) ⟨Nat.le_of_ble_eq_true rfl, Nat.le_of_ble_eq_true rfl⟩) rfl rfl hl.1 (Nat.le_of_ble_eq_true rfl) dX8_authorise_8 ⟨by decide, by decide⟩ (fun H locs Y => ?_)
        refine n_top (bN_f (by rw [hvb]; decide)) ?_
        refine n_if_eq hx hb 18 (by omega) dX8_authorise_11 (by decide) (fun _ => ?_) (fun zq => absurd zq (by decide))
        refine n_iconst hx hb 0 dX8_authorise_18 (by decide) ?_
        refine lv_istore (lv' := [(4, .int (nI 0)), (0, .ref (g.1 11 0)), (1, .int (nI ja)), (2, .int b), (3, .int d)]) hx hb dX8_authorise_19 hl (by decide) rfl (fun ls hl => ?_)
        refine lv_aload_n hx hb dX8_authorise_21 rfl (lv_at hl 1 rfl) ?_
        refine lv_iload hx hb dX8_authorise_22 (lv_at hl 0 rfl) ?_
        refine n_if_ne hx hb 31 (by omega) dX8_authorise_24 (by decide) (fun zq => absurd zq (by decide)) (fun _ => ?_)
        refine n_iconst hx hb 1 dX8_authorise_27 (by decide) ?_
        refine lv_goto (tgt := 56) hx hb dX8_authorise_28 (by decide) ?_
        have hg21 := hG.f11 (hpr 11 (by decide))
        refine m_Vi (As := [.int (nI 1)]) (rest := []) X Y hA hcx (c_m_fails l D kc A e0 M hG hwf hpr 1 (by decide)) (cwV 1 X.1.2.2.2.2 gX8_authorise_X8_fails rfl rfl rfl (by decide +kernel) ⟨Nat.le_of_ble_eq_true rfl, Nat.le_of_ble_eq_true rfl⟩) hg21 rfl rfl rfl hl.1 (Nat.le_of_ble_eq_true rfl) dX8_authorise_56 ⟨by decide, by decide⟩ (fun r22 M23 H locs p24 Y => ?_)
        obtain ⟨hr9, hG25⟩ := p24
        refine n_top (hr9.trans (bN_t (by decide))) ?_
        refine n_if_eq hx hb 64 (by omega) dX8_authorise_59 (by decide) (fun zq => absurd zq (by decide)) (fun _ => ?_)
        refine n_iconst hx hb 0 dX8_authorise_62 (by decide) ?_
        refine m_iret X Y hr hlocks (by decide) (by decide) ?_ dX8_authorise_63
        exact MC_i (c := 1) (by (simp only [sp_authorise, hva, ix_nI hla, hvb, hrd, Bool.and_self, Bool.and_true, Bool.and_false, Bool.false_and, Bool.true_and, Bool.false_eq_true, reduceIte]) <;> rfl) hG25
      | true =>
        obtain ⟨jd, had, hbd, hld, rfl⟩ := rI_t hrd
        refine lv_iload_n hx hb dX8_authorise_0 rfl (lv_at hl 1 rfl) ?_
        refine m_rSi (As := [.int (nI ja)]) (rest := []) X Y hA hcx (c_m_isCard l D kc A e0 M (nI ja)) (va_cwS 1 X.1.2.2.2.2 gX8_authorise_X8_isCard rfl rfl rfl (by decide +kernel) ⟨Nat.le_of_ble_eq_true rfl, Nat.le_of_ble_eq_true rfl⟩) rfl rfl hl.1 (Nat.le_of_ble_eq_true rfl) dX8_authorise_1 ⟨by decide, by decide⟩ (fun H locs Y => ?_)
        refine n_top (bN_t hva) ?_
        refine n_if_eq hx hb 18 (by omega) dX8_authorise_4 (by decide) (fun zq => absurd zq (by decide)) (fun _ => ?_)
        refine lv_iload_n hx hb dX8_authorise_7 rfl (lv_at hl 2 rfl) ?_
        refine m_rSi (As := [.int b]) (rest := []) X Y hA hcx (c_m_isShop l D kc A e0 M b) (va_cwS 1 X.1.2.2.2.2 gX8_authorise_X8_isShop rfl rfl rfl (by decide +kernel) ⟨Nat.le_of_ble_eq_true rfl, Nat.le_of_ble_eq_true rfl⟩) rfl rfl hl.1 (Nat.le_of_ble_eq_true rfl) dX8_authorise_8 ⟨by decide, by decide⟩ (fun H locs Y => ?_)
        refine n_top (bN_f (by rw [hvb]; decide)) ?_
        refine n_if_eq hx hb 18 (by omega) dX8_authorise_11 (by decide) (fun _ => ?_) (fun zq => absurd zq (by decide))
        refine n_iconst hx hb 0 dX8_authorise_18 (by decide) ?_
        refine lv_istore (lv' := [(4, .int (nI 0)), (0, .ref (g.1 11 0)), (1, .int (nI ja)), (2, .int b), (3, .int (nI jd))]) hx hb dX8_authorise_19 hl (by decide) rfl (fun ls hl => ?_)
        refine lv_aload_n hx hb dX8_authorise_21 rfl (lv_at hl 1 rfl) ?_
        refine lv_iload hx hb dX8_authorise_22 (lv_at hl 0 rfl) ?_
        refine n_if_ne hx hb 31 (by omega) dX8_authorise_24 (by decide) (fun zq => absurd zq (by decide)) (fun _ => ?_)
        refine n_iconst hx hb 1 dX8_authorise_27 (by decide) ?_
        refine lv_goto (tgt := 56) hx hb dX8_authorise_28 (by decide) ?_
        have hg26 := hG.f11 (hpr 11 (by decide))
        refine m_Vi (As := [.int (nI 1)]) (rest := []) X Y hA hcx (c_m_fails l D kc A e0 M hG hwf hpr 1 (by decide)) (cwV 1 X.1.2.2.2.2 gX8_authorise_X8_fails rfl rfl rfl (by decide +kernel) ⟨Nat.le_of_ble_eq_true rfl, Nat.le_of_ble_eq_true rfl⟩) hg26 rfl rfl rfl hl.1 (Nat.le_of_ble_eq_true rfl) dX8_authorise_56 ⟨by decide, by decide⟩ (fun r27 M28 H locs p29 Y => ?_)
        obtain ⟨hr9, hG30⟩ := p29
        refine n_top (hr9.trans (bN_t (by decide))) ?_
        refine n_if_eq hx hb 64 (by omega) dX8_authorise_59 (by decide) (fun zq => absurd zq (by decide)) (fun _ => ?_)
        refine n_iconst hx hb 0 dX8_authorise_62 (by decide) ?_
        refine m_iret X Y hr hlocks (by decide) (by decide) ?_ dX8_authorise_63
        exact MC_i (c := 1) (by (simp only [sp_authorise, hva, ix_nI hla, hvb, hrd, ix_nI hld, Bool.and_self, Bool.and_true, Bool.and_false, Bool.false_and, Bool.true_and, Bool.false_eq_true, reduceIte]) <;> rfl) hG30
    | true =>
      obtain ⟨jb, hjb, hlb, rfl⟩ := vI_t hvb
      cases hrd : rI d 1 100000 with
      | false =>
        refine lv_iload_n hx hb dX8_authorise_0 rfl (lv_at hl 1 rfl) ?_
        refine m_rSi (As := [.int (nI ja)]) (rest := []) X Y hA hcx (c_m_isCard l D kc A e0 M (nI ja)) (va_cwS 1 X.1.2.2.2.2 gX8_authorise_X8_isCard rfl rfl rfl (by decide +kernel) ⟨Nat.le_of_ble_eq_true rfl, Nat.le_of_ble_eq_true rfl⟩) rfl rfl hl.1 (Nat.le_of_ble_eq_true rfl) dX8_authorise_1 ⟨by decide, by decide⟩ (fun H locs Y => ?_)
        refine n_top (bN_t hva) ?_
        refine n_if_eq hx hb 18 (by omega) dX8_authorise_4 (by decide) (fun zq => absurd zq (by decide)) (fun _ => ?_)
        refine lv_iload_n hx hb dX8_authorise_7 rfl (lv_at hl 2 rfl) ?_
        refine m_rSi (As := [.int (nI jb)]) (rest := []) X Y hA hcx (c_m_isShop l D kc A e0 M (nI jb)) (va_cwS 1 X.1.2.2.2.2 gX8_authorise_X8_isShop rfl rfl rfl (by decide +kernel) ⟨Nat.le_of_ble_eq_true rfl, Nat.le_of_ble_eq_true rfl⟩) rfl rfl hl.1 (Nat.le_of_ble_eq_true rfl) dX8_authorise_8 ⟨by decide, by decide⟩ (fun H locs Y => ?_)
        refine n_top (bN_t hvb) ?_
        refine n_if_eq hx hb 18 (by omega) dX8_authorise_11 (by decide) (fun zq => absurd zq (by decide)) (fun _ => ?_)
        refine n_iconst hx hb 1 dX8_authorise_14 (by decide) ?_
        refine lv_goto (tgt := 19) hx hb dX8_authorise_15 (by decide) ?_
        refine lv_istore (lv' := [(4, .int (nI 1)), (0, .ref (g.1 11 0)), (1, .int (nI ja)), (2, .int (nI jb)), (3, .int d)]) hx hb dX8_authorise_19 hl (by decide) rfl (fun ls hl => ?_)
        refine lv_aload_n hx hb dX8_authorise_21 rfl (lv_at hl 1 rfl) ?_
        refine lv_iload hx hb dX8_authorise_22 (lv_at hl 0 rfl) ?_
        refine n_if_ne hx hb 31 (by omega) dX8_authorise_24 (by decide) (fun _ => ?_) (fun zq => absurd zq (by decide))
        refine lv_iload_n hx hb dX8_authorise_31 rfl (lv_at hl 4 rfl) ?_
        refine m_rSi (As := [.int d]) (rest := [.ref (g.1 11 0)]) X Y hA hcx (c_m_isAmount l D kc A e0 M d) (va_cwS 1 X.1.2.2.2.2 gX8_authorise_X8_isAmount rfl rfl rfl (by decide +kernel) ⟨Nat.le_of_ble_eq_true rfl, Nat.le_of_ble_eq_true rfl⟩) rfl rfl hl.1 (Nat.le_of_ble_eq_true rfl) dX8_authorise_32 ⟨by decide, by decide⟩ (fun H locs Y => ?_)
        refine n_top (bN_f (by rw [hrd]; decide)) ?_
        refine n_if_ne hx hb 42 (by omega) dX8_authorise_35 (by decide) (fun zq => absurd zq (by decide)) (fun _ => ?_)
        refine n_iconst hx hb 2 dX8_authorise_38 (by decide) ?_
        refine lv_goto (tgt := 56) hx hb dX8_authorise_39 (by decide) ?_
        have hg31 := hG.f11 (hpr 11 (by decide))
        refine m_Vi (As := [.int (nI 2)]) (rest := []) X Y hA hcx (c_m_fails l D kc A e0 M hG hwf hpr 2 (by decide)) (cwV 1 X.1.2.2.2.2 gX8_authorise_X8_fails rfl rfl rfl (by decide +kernel) ⟨Nat.le_of_ble_eq_true rfl, Nat.le_of_ble_eq_true rfl⟩) hg31 rfl rfl rfl hl.1 (Nat.le_of_ble_eq_true rfl) dX8_authorise_56 ⟨by decide, by decide⟩ (fun r32 M33 H locs p34 Y => ?_)
        obtain ⟨hr9, hG35⟩ := p34
        refine n_top (hr9.trans (bN_t (by decide))) ?_
        refine n_if_eq hx hb 64 (by omega) dX8_authorise_59 (by decide) (fun zq => absurd zq (by decide)) (fun _ => ?_)
        refine n_iconst hx hb 0 dX8_authorise_62 (by decide) ?_
        refine m_iret X Y hr hlocks (by decide) (by decide) ?_ dX8_authorise_63
        exact MC_i (c := 2) (by (simp only [sp_authorise, hva, ix_nI hla, hvb, ix_nI hlb, hrd, Bool.and_self, Bool.and_true, Bool.and_false, Bool.false_and, Bool.true_and, Bool.false_eq_true, reduceIte]) <;> rfl) hG35
      | true =>
        obtain ⟨jd, had, hbd, hld, rfl⟩ := rI_t hrd
        refine lv_iload_n hx hb dX8_authorise_0 rfl (lv_at hl 1 rfl) ?_
        refine m_rSi (As := [.int (nI ja)]) (rest := []) X Y hA hcx (c_m_isCard l D kc A e0 M (nI ja)) (va_cwS 1 X.1.2.2.2.2 gX8_authorise_X8_isCard rfl rfl rfl (by decide +kernel) ⟨Nat.le_of_ble_eq_true rfl, Nat.le_of_ble_eq_true rfl⟩) rfl rfl hl.1 (Nat.le_of_ble_eq_true rfl) dX8_authorise_1 ⟨by decide, by decide⟩ (fun H locs Y => ?_)
        refine n_top (bN_t hva) ?_
        refine n_if_eq hx hb 18 (by omega) dX8_authorise_4 (by decide) (fun zq => absurd zq (by decide)) (fun _ => ?_)
        refine lv_iload_n hx hb dX8_authorise_7 rfl (lv_at hl 2 rfl) ?_
        refine m_rSi (As := [.int (nI jb)]) (rest := []) X Y hA hcx (c_m_isShop l D kc A e0 M (nI jb)) (va_cwS 1 X.1.2.2.2.2 gX8_authorise_X8_isShop rfl rfl rfl (by decide +kernel) ⟨Nat.le_of_ble_eq_true rfl, Nat.le_of_ble_eq_true rfl⟩) rfl rfl hl.1 (Nat.le_of_ble_eq_true rfl) dX8_authorise_8 ⟨by decide, by decide⟩ (fun H locs Y => ?_)
        refine n_top (bN_t hvb) ?_
        refine n_if_eq hx hb 18 (by omega) dX8_authorise_11 (by decide) (fun zq => absurd zq (by decide)) (fun _ => ?_)
        refine n_iconst hx hb 1 dX8_authorise_14 (by decide) ?_
        refine lv_goto (tgt := 19) hx hb dX8_authorise_15 (by decide) ?_
        refine lv_istore (lv' := [(4, .int (nI 1)), (0, .ref (g.1 11 0)), (1, .int (nI ja)), (2, .int (nI jb)), (3, .int (nI jd))]) hx hb dX8_authorise_19 hl (by decide) rfl (fun ls hl => ?_)
        refine lv_aload_n hx hb dX8_authorise_21 rfl (lv_at hl 1 rfl) ?_
        refine lv_iload hx hb dX8_authorise_22 (lv_at hl 0 rfl) ?_
        refine n_if_ne hx hb 31 (by omega) dX8_authorise_24 (by decide) (fun _ => ?_) (fun zq => absurd zq (by decide))
        refine lv_iload_n hx hb dX8_authorise_31 rfl (lv_at hl 4 rfl) ?_
        refine m_rSi (As := [.int (nI jd)]) (rest := [.ref (g.1 11 0)]) X Y hA hcx (c_m_isAmount l D kc A e0 M (nI jd)) (va_cwS 1 X.1.2.2.2.2 gX8_authorise_X8_isAmount rfl rfl rfl (by decide +kernel) ⟨Nat.le_of_ble_eq_true rfl, Nat.le_of_ble_eq_true rfl⟩) rfl rfl hl.1 (Nat.le_of_ble_eq_true rfl) dX8_authorise_32 ⟨by decide, by decide⟩ (fun H locs Y => ?_)
        refine n_top (bN_t hrd) ?_
        refine n_if_ne hx hb 42 (by omega) dX8_authorise_35 (by decide) (fun _ => ?_) (fun zq => absurd zq (by decide))
        refine lv_aload_n hx hb dX8_authorise_42 rfl (lv_at hl 1 rfl) ?_
        have hg36 := hG.f11 (hpr 11 (by decide))
        refine m_get (ref := "CardPortModel") (C := RX8) (T := TX8) (N := 25) (ci := 9) X Y htX8_authorise_wsX801 hg36 rfl 4 (by decide) kwX8_authorise_1 rfl (v := .int (nI (nP τ))) rfl dX8_authorise_43 ?_
        refine n_bipush hx hb 60 dX8_authorise_46 (by decide) ?_
        refine n_icmp_ne hx hb 55 (by omega) (by omega) dX8_authorise_48 (by decide) (fun c48 => ?_) (fun c48 => ?_)
        · refine n_iconst hx hb 0 dX8_authorise_55 (by decide) ?_
          refine m_Vi (As := [.int (nI 0)]) (rest := []) X Y hA hcx (c_m_fails l D kc A e0 M hG hwf hpr 0 (by decide)) (cwV 1 X.1.2.2.2.2 gX8_authorise_X8_fails rfl rfl rfl (by decide +kernel) ⟨Nat.le_of_ble_eq_true rfl, Nat.le_of_ble_eq_true rfl⟩) hg36 rfl rfl rfl hl.1 (Nat.le_of_ble_eq_true rfl) dX8_authorise_56 ⟨by decide, by decide⟩ (fun r37 M38 H locs p39 Y => ?_)
          obtain ⟨hr9, hG40⟩ := p39
          refine n_top (hr9.trans (bN_f (by decide))) ?_
          refine n_if_eq hx hb 64 (by omega) dX8_authorise_59 (by decide) (fun _ => ?_) (fun zq => absurd zq (by decide))
          refine lv_iload_n hx hb dX8_authorise_64 rfl (lv_at hl 4 rfl) ?_
          refine lv_aload_n hx hb dX8_authorise_65 rfl (lv_at hl 1 rfl) ?_
          refine lv_iload_n hx hb dX8_authorise_66 rfl (lv_at hl 2 rfl) ?_
          have hg41 := hG40.f11 (hpr 11 (by decide))
          refine m_rVi (As := [.int (nI ja)]) (rest := [.int (nI jd)]) X Y hA hcx (c_m_limitOf l D kc A e0 M38 hG40 hwf hpr ja hja) (cwV 1 X.1.2.2.2.2 gX8_authorise_X8_limitOf rfl rfl rfl (by decide +kernel) ⟨Nat.le_of_ble_eq_true rfl, Nat.le_of_ble_eq_true rfl⟩) hg41 rfl rfl rfl hl.1 (Nat.le_of_ble_eq_true rfl) dX8_authorise_67 ⟨by decide, by decide⟩ (fun H locs Y => ?_)
          have hlt9 := limN_lt hwf ja
          refine n_icmp_le hx hb 75 (by omega) (by omega) dX8_authorise_70 (by decide) (fun c70 => ?_) (fun c70 => ?_)
          · refine lv_aload_n hx hb dX8_authorise_75 rfl (lv_at hl 1 rfl) ?_
            refine m_get (ref := "CardPortModel") (C := RX8) (T := TX8) (N := 25) (ci := 9) X Y htX8_authorise_wsX801 hg41 rfl 5 (by decide) kwX8_authorise_2 rfl (v := .ref (g.1 12 5)) rfl dX8_authorise_76 ?_
            refine lv_aload_n hx hb dX8_authorise_79 rfl (lv_at hl 1 rfl) ?_
            refine m_get (ref := "CardPortModel") (C := RX8) (T := TX8) (N := 25) (ci := 9) X Y htX8_authorise_wsX801 hg41 rfl 4 (by decide) kwX8_authorise_1 rfl (v := .int (nI (nP τ))) rfl dX8_authorise_80 ?_
            refine lv_iload_n hx hb dX8_authorise_83 rfl (lv_at hl 2 rfl) ?_
            refine g_iast X Y hG40 (hpr 12 (by decide)) (k := 5) (by decide) (j := nP τ) (v := ja) (show nP τ < 60 by omega) dX8_authorise_84 (fun M42 H locs hG43 Y => ?_)
            refine lv_aload_n hx hb dX8_authorise_85 rfl (lv_at hl 1 rfl) ?_
            have hg44 := hG43.f11 (hpr 11 (by decide))
            refine m_get (ref := "CardPortModel") (C := RX8) (T := TX8) (N := 25) (ci := 9) X Y htX8_authorise_wsX801 hg44 rfl 6 (by decide) kwX8_authorise_3 rfl (v := .ref (g.1 12 6)) rfl dX8_authorise_86 ?_
            refine lv_aload_n hx hb dX8_authorise_89 rfl (lv_at hl 1 rfl) ?_
            refine m_get (ref := "CardPortModel") (C := RX8) (T := TX8) (N := 25) (ci := 9) X Y htX8_authorise_wsX801 hg44 rfl 4 (by decide) kwX8_authorise_1 rfl (v := .int (nI (nP τ))) rfl dX8_authorise_90 ?_
            refine lv_iload_n hx hb dX8_authorise_93 rfl (lv_at hl 3 rfl) ?_
            refine g_iast X Y hG43 (hpr 12 (by decide)) (k := 6) (by decide) (j := nP τ) (v := jb) (show nP τ < 60 by omega) dX8_authorise_94 (fun M45 H locs hG46 Y => ?_)
            refine lv_aload_n hx hb dX8_authorise_95 rfl (lv_at hl 1 rfl) ?_
            have hg47 := hG46.f11 (hpr 11 (by decide))
            refine m_get (ref := "CardPortModel") (C := RX8) (T := TX8) (N := 25) (ci := 9) X Y htX8_authorise_wsX801 hg47 rfl 7 (by decide) kwX8_authorise_4 rfl (v := .ref (g.1 12 7)) rfl dX8_authorise_96 ?_
            refine lv_aload_n hx hb dX8_authorise_99 rfl (lv_at hl 1 rfl) ?_
            refine m_get (ref := "CardPortModel") (C := RX8) (T := TX8) (N := 25) (ci := 9) X Y htX8_authorise_wsX801 hg47 rfl 4 (by decide) kwX8_authorise_1 rfl (v := .int (nI (nP τ))) rfl dX8_authorise_100 ?_
            refine lv_iload_n hx hb dX8_authorise_103 rfl (lv_at hl 4 rfl) ?_
            refine g_iast X Y hG46 (hpr 12 (by decide)) (k := 7) (by decide) (j := nP τ) (v := jd) (show nP τ < 60 by omega) dX8_authorise_104 (fun M48 H locs hG49 Y => ?_)
            refine lv_aload_n hx hb dX8_authorise_105 rfl (lv_at hl 1 rfl) ?_
            have hg50 := hG49.f11 (hpr 11 (by decide))
            refine m_get (ref := "CardPortModel") (C := RX8) (T := TX8) (N := 25) (ci := 9) X Y htX8_authorise_wsX801 hg50 rfl 9 (by decide) kwX8_authorise_5 rfl (v := .ref (g.1 12 9)) rfl dX8_authorise_106 ?_
            refine lv_aload_n hx hb dX8_authorise_109 rfl (lv_at hl 1 rfl) ?_
            refine m_get (ref := "CardPortModel") (C := RX8) (T := TX8) (N := 25) (ci := 9) X Y htX8_authorise_wsX801 hg50 rfl 4 (by decide) kwX8_authorise_1 rfl (v := .int (nI (nP τ))) rfl dX8_authorise_110 ?_
            refine lv_aload_n hx hb dX8_authorise_113 rfl (lv_at hl 1 rfl) ?_
            refine m_get (ref := "CardPortModel") (C := RX8) (T := TX8) (N := 25) (ci := 9) X Y htX8_authorise_wsX801 hg50 rfl 0 (by decide) kwX8_authorise_6 rfl (v := .int (nI (tD τ))) rfl dX8_authorise_114 ?_
            refine n_bipush hx hb 7 dX8_authorise_117 (by decide) ?_
            refine n_iadd hx hb dX8_authorise_119 ?_
            refine g_iast X Y hG49 (hpr 12 (by decide)) (k := 9) (by decide) (j := nP τ) (v := (tD τ) + 7) (show nP τ < 60 by omega) dX8_authorise_120 (fun M51 H locs hG52 Y => ?_)
            refine lv_aload_n hx hb dX8_authorise_121 rfl (lv_at hl 1 rfl) ?_
            refine lv_dup hx hb dX8_authorise_122 rfl ?_
            have hg53 := hG52.f11 (hpr 11 (by decide))
            refine m_get (ref := "CardPortModel") (C := RX8) (T := TX8) (N := 25) (ci := 9) X Y htX8_authorise_wsX801 hg53 rfl 4 (by decide) kwX8_authorise_1 rfl (v := .int (nI (nP τ))) rfl dX8_authorise_123 ?_
            refine n_iconst hx hb 1 dX8_authorise_126 (by decide) ?_
            refine n_iadd hx hb dX8_authorise_127 ?_
            refine m_put (ref := "CardPortModel") (C := RX8) (T := TX8) (N := 25) (ci := 9) X Y htX8_authorise_wsX801 tyX8 tyX8_ok nmX8 hg53 rfl 4 (by decide) kwX8_authorise_1 rfl rfl (v := .int (nI ((nP τ) + 1))) rfl rfl (Nat.le_of_ble_eq_true rfl) dX8_authorise_128 (fun H locs Y => ?_)
            obtain ⟨M54, eM54⟩ : ∃ zz9 : Mp, zz9 = mu M51 (g.1 11 0) (.inr (9, [.int (nI (tD τ)), .ref (g.1 12 1), .ref (g.1 12 2), .ref (g.1 12 3), .int (nI ((nP τ) + 1)), .ref (g.1 12 5), .ref (g.1 12 6), .ref (g.1 12 7), .ref (g.1 12 8), .ref (g.1 12 9), .ref (g.1 12 10), .int (nI (nC τ)), .ref (g.1 12 12), .ref (g.1 12 13), .ref (g.1 12 14), .ref (g.1 12 15), .int (nI (nB τ)), .ref (g.1 12 17), .ref (g.1 12 18), .ref (g.1 12 19), .ref (g.1 12 20), .int (nI (τ.1 21 0)), .ref (g.1 12 22), .ref (g.1 12 23), .int (nI 0)])) := ⟨_, rfl⟩
            replace Y : mY D A M54 s H locs := by rw [eM54]; exact Y
            have hh55 : M54 (g.1 11 0) = some (.inr (9, [.int (nI (tD τ)), .ref (g.1 12 1), .ref (g.1 12 2), .ref (g.1 12 3), .int (nI ((nP τ) + 1)), .ref (g.1 12 5), .ref (g.1 12 6), .ref (g.1 12 7), .ref (g.1 12 8), .ref (g.1 12 9), .ref (g.1 12 10), .int (nI (nC τ)), .ref (g.1 12 12), .ref (g.1 12 13), .ref (g.1 12 14), .ref (g.1 12 15), .int (nI (nB τ)), .ref (g.1 12 17), .ref (g.1 12 18), .ref (g.1 12 19), .ref (g.1 12 20), .int (nI (τ.1 21 0)), .ref (g.1 12 22), .ref (g.1 12 23), .int (nI 0)])) := by rw [eM54]; exact mu_self _ _ _
            have hG56 : G pr kc e0 σ ((up2 (up2 (up2 (up2 (up2 τ.1 5 (nP τ) ja) 6 (nP τ) jb) 7 (nP τ) jd) 9 (nP τ) ((tD τ) + 7)) 4 0 ((nP τ) + 1)), τ.2) (nI 0) o g M54 := by rw [eM54]; exact hG52.setF (hpr 11 (by decide)) (k := 4) (v := (nP τ) + 1) (by decide)
            refine lv_aload_n hx hb dX8_authorise_131 rfl (lv_at hl 1 rfl) ?_
            have hg57 := hG56.f11 (hpr 11 (by decide))
            refine m_get (ref := "CardPortModel") (C := RX8) (T := TX8) (N := 25) (ci := 9) X Y htX8_authorise_wsX801 hg57 rfl 4 (by decide) kwX8_authorise_1 rfl (v := .int (nI ((nP τ) + 1))) rfl dX8_authorise_132 ?_
            refine n_iconst hx hb 1 dX8_authorise_135 (by decide) ?_
            refine n_isub hx hb (by omega) dX8_authorise_136 ?_
            refine m_iret X Y hr hlocks (by decide) (by decide) ?_ dX8_authorise_137
            exact MC_i (c := 0) (by (simp only [sp_authorise, hva, ix_nI hla, hvb, ix_nI hlb, hrd, ix_nI hld, Bool.and_self, Bool.and_true, Bool.and_false, Bool.false_and, Bool.true_and, Bool.false_eq_true, reduceIte]; rw [if_pos (show nP τ < 60 by omega), if_pos (by omega)]; rfl) <;> rfl) hG56
          · refine lv_iconst (v := -1) hx hb dX8_authorise_73 (by decide) ?_
            refine m_iret X Y hr hlocks (by decide) (by decide) ?_ dX8_authorise_74
            exact MC_i (c := 0) (by (simp only [sp_authorise, hva, ix_nI hla, hvb, ix_nI hlb, hrd, ix_nI hld, Bool.and_self, Bool.and_true, Bool.and_false, Bool.false_and, Bool.true_and, Bool.false_eq_true, reduceIte]; rw [if_pos (show nP τ < 60 by omega), if_neg (by omega)]) <;> rfl) hG40
        · refine n_iconst hx hb 3 dX8_authorise_51 (by decide) ?_
          refine lv_goto (tgt := 56) hx hb dX8_authorise_52 (by decide) ?_
          refine m_Vi (As := [.int (nI 3)]) (rest := []) X Y hA hcx (c_m_fails l D kc A e0 M hG hwf hpr 3 (by decide)) (cwV 1 X.1.2.2.2.2 gX8_authorise_X8_fails rfl rfl rfl (by decide +kernel) ⟨Nat.le_of_ble_eq_true rfl, Nat.le_of_ble_eq_true rfl⟩) hg36 rfl rfl rfl hl.1 (Nat.le_of_ble_eq_true rfl) dX8_authorise_56 ⟨by decide, by decide⟩ (fun r58 M59 H locs p60 Y => ?_)
          obtain ⟨hr9, hG61⟩ := p60
          refine n_top (hr9.trans (bN_t (by decide))) ?_
          refine n_if_eq hx hb 64 (by omega) dX8_authorise_59 (by decide) (fun zq => absurd zq (by decide)) (fun _ => ?_)
          refine n_iconst hx hb 0 dX8_authorise_62 (by decide) ?_
          refine m_iret X Y hr hlocks (by decide) (by decide) ?_ dX8_authorise_63
          exact MC_i (c := 3) (by (simp only [sp_authorise, hva, ix_nI hla, hvb, ix_nI hlb, hrd, ix_nI hld, Bool.and_self, Bool.and_true, Bool.and_false, Bool.false_and, Bool.true_and, Bool.false_eq_true, reduceIte]; rw [if_neg (by omega)]) <;> rfl) hG61
theorem kwX8_cancel_1 : Cond.fieldLink RX8 34 "CardPortModel" "isVoid" "[Z" ∈ wsX8_cancel := List.mem_of_getElem? (i := 1) rfl
theorem htX8_cancel_wsX801 : ∀ w ∈ wsX80, w ∈ wsX8_cancel := fun _ h => List.mem_cons_of_mem _ (List.mem_append_right _ h)
theorem kwX8_cancel_2 : Cond.fieldLink RX8 25 "CardPortModel" "amount" "[I" ∈ wsX8_cancel := List.mem_of_getElem? (i := 2) rfl
theorem kwX8_cancel_3 : Cond.fieldLink RX8 28 "CardPortModel" "captured" "[I" ∈ wsX8_cancel := List.mem_of_getElem? (i := 3) rfl
set_option maxHeartbeats 4000000 in
set_option maxRecDepth 100000 in
theorem c_X8_cancel (l : Launch) (D : va_G) (kc : Nat → ClassId) (A : Nat → Prop) (e0 : Nat × Nat) (M : Mp) {pr : Nat → Prop} {σ τ : Sg} {th : Int32} {o : Int64} {g : Gh} {nn : Nat} (hG : G pr kc e0 σ τ th o g M) (hwf : WS nn τ) (hpr : ∀ t, t ≤ 13 → pr t) (a : Int32) : Met l yX8_cancel wsX8_cancel ({ frames := 2, cells := 0, slots := 0, locals := 43 }) (mPre D kc A e0 M [.ref (g.1 11 0), .int a]) (va_Qi (MC pr kc e0 σ o g (sp_cancel τ a)) (mB D A) A) 0 0 A := by
  refine Met.ofW (cc := cX8_cancel) (maxL := 2) (ret := (some .int)) (by decide) rfl ?_
  intro p e s m args below meth c s₁ B hml hv
  obtain ⟨rfl, hw, hK, hA, hcx⟩ := hv
  have X : mX p s m _ c cX8_cancel 2 RX8 wsX8_cancel D kc := ⟨⟨B.exec, B.bytes, hml, findClass_of_methodNamed B.named, atoms_spec (ws := wsX8_cancel) B.pre⟩, hK⟩
  have hx := B.exec
  have hb := B.bytes
  have hr := B.returns
  have hlocks := B.notSynchronized
  have Y : mY D A M s s.heap [] := ⟨hw, va_S.rf⟩
  have hl := lv_entry ([.ref (g.1 11 0), .int a]) (n := 2) (Nat.le_of_ble_eq_true rfl)
  rw [lg_entry_eq]
  generalize (lg_sl ([.ref (g.1 11 0), .int a]) ++ List.replicate (2 - (lg_sl ([.ref (g.1 11 0), .int a])).length) Slot.unset).toArray = ls at hl ⊢
  have hl : lv_has ls 2 [(0, .ref (g.1 11 0)), (1, .int a)] := hl
  have hwn := hwf.2.2.2.1
  have hwd := hwf.1
  cases hva : vI a (nP τ) with
  | false =>
    refine lv_aload_n hx hb dX8_cancel_0 rfl (lv_at hl 0 rfl) ?_
    refine lv_aload_n hx hb dX8_cancel_1 rfl (lv_at hl 0 rfl) ?_
    refine lv_iload_n hx hb dX8_cancel_2 rfl (lv_at hl 1 rfl) ?_
    have hg1 := hG.f11 (hpr 11 (by decide))
    refine m_rVi (As := [.int a]) (rest := [.ref (g.1 11 0)]) X Y hA hcx (c_m_isPayment l D kc A e0 M hG hwf hpr a) (cwV 1 X.1.2.2.2.2 gX8_cancel_X8_isPayment rfl rfl rfl (by decide +kernel) ⟨Nat.le_of_ble_eq_true rfl, Nat.le_of_ble_eq_true rfl⟩) hg1 rfl rfl rfl hl.1 (Nat.le_of_ble_eq_true rfl) dX8_cancel_3 ⟨by decide, by decide⟩ (fun H locs Y => ?_)
    refine n_top (bN_f (by rw [hva]; decide)) ?_
    refine n_if_ne hx hb 13 (by omega) dX8_cancel_6 (by decide) (fun zq => absurd zq (by decide)) (fun _ => ?_)
    refine n_iconst hx hb 1 dX8_cancel_9 (by decide) ?_
    refine lv_goto (tgt := 26) hx hb dX8_cancel_10 (by decide) ?_
    refine m_Vi (As := [.int (nI 1)]) (rest := []) X Y hA hcx (c_m_fails l D kc A e0 M hG hwf hpr 1 (by decide)) (cwV 1 X.1.2.2.2.2 gX8_cancel_X8_fails rfl rfl rfl (by decide +kernel) ⟨Nat.le_of_ble_eq_true rfl, Nat.le_of_ble_eq_true rfl⟩) hg1 rfl rfl rfl hl.1 (Nat.le_of_ble_eq_true rfl) dX8_cancel_26 ⟨by decide, by decide⟩ (fun r2 M3 H locs p4 Y => ?_)
    obtain ⟨hr9, hG5⟩ := p4
    refine n_top (hr9.trans (bN_t (by decide))) ?_
    refine n_if_eq hx hb 34 (by omega) dX8_cancel_29 (by decide) (fun zq => absurd zq (by decide)) (fun _ => ?_)
    refine n_iconst hx hb 0 dX8_cancel_32 (by decide) ?_
    refine m_iret X Y hr hlocks (by decide) (by decide) ?_ dX8_cancel_33
    exact MC_i (c := 1) (by (simp only [sp_cancel, hva, Bool.and_self, Bool.and_true, Bool.and_false, Bool.false_and, Bool.true_and, Bool.false_eq_true, reduceIte]) <;> rfl) hG5
  | true =>
    obtain ⟨ja, hja, hla, rfl⟩ := vI_t hva
    refine lv_aload_n hx hb dX8_cancel_0 rfl (lv_at hl 0 rfl) ?_
    refine lv_aload_n hx hb dX8_cancel_1 rfl (lv_at hl 0 rfl) ?_
    refine lv_iload_n hx hb dX8_cancel_2 rfl (lv_at hl 1 rfl) ?_
    have hg6 := hG.f11 (hpr 11 (by decide))
    refine m_rVi (As := [.int (nI ja)]) (rest := [.ref (g.1 11 0)]) X Y hA hcx (c_m_isPayment l D kc A e0 M hG hwf hpr (nI ja)) (cwV 1 X.1.2.2.2.2 gX8_cancel_X8_isPayment rfl rfl rfl (by decide +kernel) ⟨Nat.le_of_ble_eq_true rfl, Nat.le_of_ble_eq_true rfl⟩) hg6 rfl rfl rfl hl.1 (Nat.le_of_ble_eq_true rfl) dX8_cancel_3 ⟨by decide, by decide⟩ (fun H locs Y => ?_)
    refine n_top (bN_t hva) ?_
    refine n_if_ne hx hb 13 (by omega) dX8_cancel_6 (by decide) (fun _ => ?_) (fun zq => absurd zq (by decide))
    refine lv_aload_n hx hb dX8_cancel_13 rfl (lv_at hl 0 rfl) ?_
    refine lv_iload_n hx hb dX8_cancel_14 rfl (lv_at hl 1 rfl) ?_
    refine m_rVi (As := [.int (nI ja)]) (rest := [.ref (g.1 11 0)]) X Y hA hcx (c_m_isOpen l D kc A e0 M hG hwf hpr ja hja) (cwV 1 X.1.2.2.2.2 gX8_cancel_X8_isOpen rfl rfl rfl (by decide +kernel) ⟨Nat.le_of_ble_eq_true rfl, Nat.le_of_ble_eq_true rfl⟩) hg6 rfl rfl rfl hl.1 (Nat.le_of_ble_eq_true rfl) dX8_cancel_15 ⟨by decide, by decide⟩ (fun H locs Y => ?_)
    by_cases hal : τ.1 10 ja = 0 ∧ tD τ ≤ τ.1 9 ja
    · refine n_top (bN_t hal) ?_
      refine n_if_eq hx hb 25 (by omega) dX8_cancel_18 (by decide) (fun zq => absurd zq (by decide)) (fun _ => ?_)
      refine n_iconst hx hb 0 dX8_cancel_21 (by decide) ?_
      refine lv_goto (tgt := 26) hx hb dX8_cancel_22 (by decide) ?_
      refine m_Vi (As := [.int (nI 0)]) (rest := []) X Y hA hcx (c_m_fails l D kc A e0 M hG hwf hpr 0 (by decide)) (cwV 1 X.1.2.2.2.2 gX8_cancel_X8_fails rfl rfl rfl (by decide +kernel) ⟨Nat.le_of_ble_eq_true rfl, Nat.le_of_ble_eq_true rfl⟩) hg6 rfl rfl rfl hl.1 (Nat.le_of_ble_eq_true rfl) dX8_cancel_26 ⟨by decide, by decide⟩ (fun r7 M8 H locs p9 Y => ?_)
      obtain ⟨hr9, hG10⟩ := p9
      refine n_top (hr9.trans (bN_f (by decide))) ?_
      refine n_if_eq hx hb 34 (by omega) dX8_cancel_29 (by decide) (fun _ => ?_) (fun zq => absurd zq (by decide))
      have hw5 := hwf.2.2.2.2.1 _ hja
      refine lv_aload_n hx hb dX8_cancel_34 rfl (lv_at hl 0 rfl) ?_
      have hg11 := hG10.f11 (hpr 11 (by decide))
      refine m_get (ref := "CardPortModel") (C := RX8) (T := TX8) (N := 25) (ci := 9) X Y htX8_cancel_wsX801 hg11 rfl 10 (by decide) kwX8_cancel_1 rfl (v := .ref (g.1 12 10)) rfl dX8_cancel_35 ?_
      refine lv_iload_n hx hb dX8_cancel_38 rfl (lv_at hl 1 rfl) ?_
      refine n_iconst hx hb 1 dX8_cancel_39 (by decide) ?_
      refine g_zast X Y hG10 (hpr 12 (by decide)) (j := ja) (show ja < 60 by omega) dX8_cancel_40 (fun M12 H locs hG13 Y => ?_)
      refine lv_aload_n hx hb dX8_cancel_41 rfl (lv_at hl 0 rfl) ?_
      have hg14 := hG13.f11 (hpr 11 (by decide))
      refine m_get (ref := "CardPortModel") (C := RX8) (T := TX8) (N := 25) (ci := 9) X Y htX8_cancel_wsX801 hg14 rfl 7 (by decide) kwX8_cancel_2 rfl (v := .ref (g.1 12 7)) rfl dX8_cancel_42 ?_
      refine lv_iload_n hx hb dX8_cancel_45 rfl (lv_at hl 1 rfl) ?_
      refine g_iald X Y hG13 (hpr 12 (by decide)) (k := 7) (by decide) (j := ja) (show ja < 60 by omega) (v := τ.1 7 ja) (by simp [up2]) dX8_cancel_46 ?_
      refine lv_aload_n hx hb dX8_cancel_47 rfl (lv_at hl 0 rfl) ?_
      refine m_get (ref := "CardPortModel") (C := RX8) (T := TX8) (N := 25) (ci := 9) X Y htX8_cancel_wsX801 hg14 rfl 8 (by decide) kwX8_cancel_3 rfl (v := .ref (g.1 12 8)) rfl dX8_cancel_48 ?_
      refine lv_iload_n hx hb dX8_cancel_51 rfl (lv_at hl 1 rfl) ?_
      refine g_iald X Y hG13 (hpr 12 (by decide)) (k := 8) (by decide) (j := ja) (show ja < 60 by omega) (v := τ.1 8 ja) (by simp [up2]) dX8_cancel_52 ?_
      refine n_isub hx hb (by omega) dX8_cancel_53 ?_
      refine m_iret X Y hr hlocks (by decide) (by decide) ?_ dX8_cancel_54
      exact MC_i (c := 0) (by (simp only [sp_cancel, hva, ix_nI hla, Bool.and_self, Bool.and_true, Bool.and_false, Bool.false_and, Bool.true_and, Bool.false_eq_true, reduceIte]; rw [if_pos hal]) <;> rfl) hG13
    · refine n_top (bN_f hal) ?_
      refine n_if_eq hx hb 25 (by omega) dX8_cancel_18 (by decide) (fun _ => ?_) (fun zq => absurd zq (by decide))
      refine n_iconst hx hb 2 dX8_cancel_25 (by decide) ?_
      refine m_Vi (As := [.int (nI 2)]) (rest := []) X Y hA hcx (c_m_fails l D kc A e0 M hG hwf hpr 2 (by decide)) (cwV 1 X.1.2.2.2.2 gX8_cancel_X8_fails rfl rfl rfl (by decide +kernel) ⟨Nat.le_of_ble_eq_true rfl, Nat.le_of_ble_eq_true rfl⟩) hg6 rfl rfl rfl hl.1 (Nat.le_of_ble_eq_true rfl) dX8_cancel_26 ⟨by decide, by decide⟩ (fun r15 M16 H locs p17 Y => ?_)
      obtain ⟨hr9, hG18⟩ := p17
      refine n_top (hr9.trans (bN_t (by decide))) ?_
      refine n_if_eq hx hb 34 (by omega) dX8_cancel_29 (by decide) (fun zq => absurd zq (by decide)) (fun _ => ?_)
      refine n_iconst hx hb 0 dX8_cancel_32 (by decide) ?_
      refine m_iret X Y hr hlocks (by decide) (by decide) ?_ dX8_cancel_33
      exact MC_i (c := 2) (by (simp only [sp_cancel, hva, ix_nI hla, Bool.and_self, Bool.and_true, Bool.and_false, Bool.false_and, Bool.true_and, Bool.false_eq_true, reduceIte]; rw [if_neg hal]) <;> rfl) hG18
set_option maxHeartbeats 4000000 in
set_option maxRecDepth 100000 in
theorem c_X8_limit (l : Launch) (D : va_G) (kc : Nat → ClassId) (A : Nat → Prop) (e0 : Nat × Nat) (M : Mp) {pr : Nat → Prop} {σ τ : Sg} {th : Int32} {o : Int64} {g : Gh} {nn : Nat} (hG : G pr kc e0 σ τ th o g M) (hwf : WS nn τ) (hpr : ∀ t, t ≤ 13 → pr t) (a : Int32) : Met l yX8_limit wsX8_limit ({ frames := 2, cells := 0, slots := 0, locals := 42 }) (mPre D kc A e0 M [.ref (g.1 11 0), .int a]) (va_Qi (MC pr kc e0 σ o g (sp_limit τ a)) (mB D A) A) 0 0 A := by
  refine Met.ofW (cc := cX8_limit) (maxL := 2) (ret := (some .int)) (by decide) rfl ?_
  intro p e s m args below meth c s₁ B hml hv
  obtain ⟨rfl, hw, hK, hA, hcx⟩ := hv
  have X : mX p s m _ c cX8_limit 2 RX8 wsX8_limit D kc := ⟨⟨B.exec, B.bytes, hml, findClass_of_methodNamed B.named, atoms_spec (ws := wsX8_limit) B.pre⟩, hK⟩
  have hx := B.exec
  have hb := B.bytes
  have hr := B.returns
  have hlocks := B.notSynchronized
  have Y : mY D A M s s.heap [] := ⟨hw, va_S.rf⟩
  have hl := lv_entry ([.ref (g.1 11 0), .int a]) (n := 2) (Nat.le_of_ble_eq_true rfl)
  rw [lg_entry_eq]
  generalize (lg_sl ([.ref (g.1 11 0), .int a]) ++ List.replicate (2 - (lg_sl ([.ref (g.1 11 0), .int a])).length) Slot.unset).toArray = ls at hl ⊢
  have hl : lv_has ls 2 [(0, .ref (g.1 11 0)), (1, .int a)] := hl
  have hwn := hwf.2.2.2.1
  have hwd := hwf.1
  cases hva : vI a 12 with
  | false =>
    refine lv_aload_n hx hb dX8_limit_0 rfl (lv_at hl 0 rfl) ?_
    refine lv_iload_n hx hb dX8_limit_1 rfl (lv_at hl 1 rfl) ?_
    refine m_rSi (As := [.int a]) (rest := [.ref (g.1 11 0)]) X Y hA hcx (c_m_isCard l D kc A e0 M a) (va_cwS 1 X.1.2.2.2.2 gX8_limit_X8_isCard rfl rfl rfl (by decide +kernel) ⟨Nat.le_of_ble_eq_true rfl, Nat.le_of_ble_eq_true rfl⟩) rfl rfl hl.1 (Nat.le_of_ble_eq_true rfl) dX8_limit_2 ⟨by decide, by decide⟩ (fun H locs Y => ?_)
    refine n_top (bN_f (by rw [hva]; decide)) ?_
    refine n_if_eq hx hb 12 (by omega) dX8_limit_5 (by decide) (fun _ => ?_) (fun zq => absurd zq (by decide))
    refine n_iconst hx hb 1 dX8_limit_12 (by decide) ?_
    have hg1 := hG.f11 (hpr 11 (by decide))
    refine m_Vi (As := [.int (nI 1)]) (rest := []) X Y hA hcx (c_m_fails l D kc A e0 M hG hwf hpr 1 (by decide)) (cwV 1 X.1.2.2.2.2 gX8_limit_X8_fails rfl rfl rfl (by decide +kernel) ⟨Nat.le_of_ble_eq_true rfl, Nat.le_of_ble_eq_true rfl⟩) hg1 rfl rfl rfl hl.1 (Nat.le_of_ble_eq_true rfl) dX8_limit_13 ⟨by decide, by decide⟩ (fun r2 M3 H locs p4 Y => ?_)
    obtain ⟨hr9, hG5⟩ := p4
    refine n_top (hr9.trans (bN_t (by decide))) ?_
    refine n_if_eq hx hb 23 (by omega) dX8_limit_16 (by decide) (fun zq => absurd zq (by decide)) (fun _ => ?_)
    refine n_iconst hx hb 0 dX8_limit_19 (by decide) ?_
    refine lv_goto (tgt := 28) hx hb dX8_limit_20 (by decide) ?_
    refine m_iret X Y hr hlocks (by decide) (by decide) ?_ dX8_limit_28
    exact MC_i (c := 1) (by (simp only [sp_limit, hva, Bool.and_self, Bool.and_true, Bool.and_false, Bool.false_and, Bool.true_and, Bool.false_eq_true, reduceIte]) <;> rfl) hG5
  | true =>
    obtain ⟨ja, hja, hla, rfl⟩ := vI_t hva
    refine lv_aload_n hx hb dX8_limit_0 rfl (lv_at hl 0 rfl) ?_
    refine lv_iload_n hx hb dX8_limit_1 rfl (lv_at hl 1 rfl) ?_
    refine m_rSi (As := [.int (nI ja)]) (rest := [.ref (g.1 11 0)]) X Y hA hcx (c_m_isCard l D kc A e0 M (nI ja)) (va_cwS 1 X.1.2.2.2.2 gX8_limit_X8_isCard rfl rfl rfl (by decide +kernel) ⟨Nat.le_of_ble_eq_true rfl, Nat.le_of_ble_eq_true rfl⟩) rfl rfl hl.1 (Nat.le_of_ble_eq_true rfl) dX8_limit_2 ⟨by decide, by decide⟩ (fun H locs Y => ?_)
    refine n_top (bN_t hva) ?_
    refine n_if_eq hx hb 12 (by omega) dX8_limit_5 (by decide) (fun zq => absurd zq (by decide)) (fun _ => ?_)
    refine n_iconst hx hb 0 dX8_limit_8 (by decide) ?_
    refine lv_goto (tgt := 13) hx hb dX8_limit_9 (by decide) ?_
    have hg6 := hG.f11 (hpr 11 (by decide))
    refine m_Vi (As := [.int (nI 0)]) (rest := []) X Y hA hcx (c_m_fails l D kc A e0 M hG hwf hpr 0 (by decide)) (cwV 1 X.1.2.2.2.2 gX8_limit_X8_fails rfl rfl rfl (by decide +kernel) ⟨Nat.le_of_ble_eq_true rfl, Nat.le_of_ble_eq_true rfl⟩) hg6 rfl rfl rfl hl.1 (Nat.le_of_ble_eq_true rfl) dX8_limit_13 ⟨by decide, by decide⟩ (fun r7 M8 H locs p9 Y => ?_)
    obtain ⟨hr9, hG10⟩ := p9
    refine n_top (hr9.trans (bN_f (by decide))) ?_
    refine n_if_eq hx hb 23 (by omega) dX8_limit_16 (by decide) (fun _ => ?_) (fun zq => absurd zq (by decide))
    refine lv_aload_n hx hb dX8_limit_23 rfl (lv_at hl 0 rfl) ?_
    refine lv_iload_n hx hb dX8_limit_24 rfl (lv_at hl 1 rfl) ?_
    have hg11 := hG10.f11 (hpr 11 (by decide))
    refine m_rVi (As := [.int (nI ja)]) (rest := []) X Y hA hcx (c_m_limitOf l D kc A e0 M8 hG10 hwf hpr ja hja) (cwV 1 X.1.2.2.2.2 gX8_limit_X8_limitOf rfl rfl rfl (by decide +kernel) ⟨Nat.le_of_ble_eq_true rfl, Nat.le_of_ble_eq_true rfl⟩) hg11 rfl rfl rfl hl.1 (Nat.le_of_ble_eq_true rfl) dX8_limit_25 ⟨by decide, by decide⟩ (fun H locs Y => ?_)
    refine m_iret X Y hr hlocks (by decide) (by decide) ?_ dX8_limit_28
    exact MC_i (c := 0) (by (simp only [sp_limit, hva, ix_nI hla, Bool.and_self, Bool.and_true, Bool.and_false, Bool.false_and, Bool.true_and, Bool.false_eq_true, reduceIte]) <;> rfl) hG10
