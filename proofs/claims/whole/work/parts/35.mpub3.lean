theorem nI_le2 {a b : Nat} (ha : a < 2147483648) (hb : b < 2147483648) : nI a ≤ nI b ↔ a ≤ b := by
  rw [Int32.le_iff_toInt_le, nI_tI ha, nI_tI hb]; omega
theorem kwX8_capture_1 : Cond.fieldLink RX8 25 "CardPortModel" "amount" "[I" ∈ wsX8_capture := List.mem_of_getElem? (i := 1) rfl
theorem htX8_capture_wsX801 : ∀ w ∈ wsX80, w ∈ wsX8_capture := fun _ h => List.mem_cons_of_mem _ (List.mem_append_right _ h)
theorem kwX8_capture_2 : Cond.fieldLink RX8 28 "CardPortModel" "captured" "[I" ∈ wsX8_capture := List.mem_of_getElem? (i := 2) rfl
theorem kwX8_capture_3 : Cond.fieldLink RX8 94 "CardPortModel" "captures" "I" ∈ wsX8_capture := List.mem_of_getElem? (i := 3) rfl
theorem kwX8_capture_4 : Cond.fieldLink RX8 38 "CardPortModel" "payment" "[I" ∈ wsX8_capture := List.mem_of_getElem? (i := 4) rfl
theorem kwX8_capture_5 : Cond.fieldLink RX8 41 "CardPortModel" "size" "[I" ∈ wsX8_capture := List.mem_of_getElem? (i := 5) rfl
theorem kwX8_capture_6 : Cond.fieldLink RX8 44 "CardPortModel" "fee" "[I" ∈ wsX8_capture := List.mem_of_getElem? (i := 6) rfl
theorem kwX8_capture_7 : Cond.fieldLink RX8 7 "CardPortModel" "kindOf" "[I" ∈ wsX8_capture := List.mem_of_getElem? (i := 7) rfl
theorem kwX8_capture_8 : Cond.fieldLink RX8 22 "CardPortModel" "shop" "[I" ∈ wsX8_capture := List.mem_of_getElem? (i := 8) rfl
theorem kwX8_capture_9 : Cond.fieldLink RX8 123 "CardPortModel" "fees" "I" ∈ wsX8_capture := List.mem_of_getElem? (i := 9) rfl
set_option maxHeartbeats 4000000 in
set_option maxRecDepth 100000 in
theorem c_X8_capture (l : Launch) (D : va_G) (kc : Nat → ClassId) (A : Nat → Prop) (e0 : Nat × Nat) (M : Mp) {pr : Nat → Prop} {σ τ : Sg} {th : Int32} {o : Int64} {g : Gh} {nn : Nat} (hG : G pr kc e0 σ τ th o g M) (hwf : WS nn τ) (hpr : ∀ t, t ≤ 13 → pr t) (a b : Int32) : Met l yX8_capture wsX8_capture ({ frames := 2, cells := 0, slots := 0, locals := 43 }) (mPre D kc A e0 M [.ref (g.1 11 0), .int a, .int b]) (va_Qi (MC pr kc e0 σ o g (sp_capture τ a b)) (mB D A) A) 0 0 A := by
  refine Met.ofW (cc := cX8_capture) (maxL := 5) (ret := (some .int)) (by decide) rfl ?_
  intro p e s m args below meth c s₁ B hml hv
  obtain ⟨rfl, hw, hK, hA, hcx⟩ := hv
  have X : mX p s m _ c cX8_capture 5 RX8 wsX8_capture D kc := ⟨⟨B.exec, B.bytes, hml, findClass_of_methodNamed B.named, atoms_spec (ws := wsX8_capture) B.pre⟩, hK⟩
  have hx := B.exec
  have hb := B.bytes
  have hr := B.returns
  have hlocks := B.notSynchronized
  have Y : mY D A M s s.heap [] := ⟨hw, va_S.rf⟩
  have hl := lv_entry ([.ref (g.1 11 0), .int a, .int b]) (n := 5) (Nat.le_of_ble_eq_true rfl)
  rw [lg_entry_eq]
  generalize (lg_sl ([.ref (g.1 11 0), .int a, .int b]) ++ List.replicate (5 - (lg_sl ([.ref (g.1 11 0), .int a, .int b])).length) Slot.unset).toArray = ls at hl ⊢
  have hl : lv_has ls 5 [(0, .ref (g.1 11 0)), (1, .int a), (2, .int b)] := hl
  have hwn := hwf.2.2.2.1
  have hwd := hwf.1
  cases hva : vI a (nP τ) with
  | false =>
    cases hrb : rI b 1 100000 with
    | false =>
      refine lv_aload_n hx hb dX8_capture_0 rfl (lv_at hl 0 rfl) ?_
      refine lv_iload_n hx hb dX8_capture_1 rfl (lv_at hl 1 rfl) ?_
      have hg1 := hG.f11 (hpr 11 (by decide))
      refine m_rVi (As := [.int a]) (rest := []) X Y hA hcx (c_m_isPayment l D kc A e0 M hG hwf hpr a) (cwV 1 X.1.2.2.2.2 gX8_capture_X8_isPayment rfl rfl rfl (by decide +kernel) ⟨Nat.le_of_ble_eq_true rfl, Nat.le_of_ble_eq_true rfl⟩) hg1 rfl rfl rfl hl.1 (Nat.le_of_ble_eq_true rfl) dX8_capture_2 ⟨by decide, by decide⟩ (fun H locs Y => ?_)
      refine n_top (bN_f (by rw [hva]; decide)) ?_
      refine n_if_eq hx hb 46 (by omega) dX8_capture_5 (by decide) (fun _ => ?_) (fun zq => absurd zq (by decide))
      refine n_iconst hx hb 0 dX8_capture_46 (by decide) ?_
      refine lv_istore_n (lv' := [(3, .int (nI 0)), (0, .ref (g.1 11 0)), (1, .int a), (2, .int b)]) hx hb dX8_capture_47 rfl hl (by decide) rfl (fun ls hl => ?_)
      refine lv_aload_n hx hb dX8_capture_48 rfl (lv_at hl 1 rfl) ?_
      refine lv_aload_n hx hb dX8_capture_49 rfl (lv_at hl 1 rfl) ?_
      refine lv_iload_n hx hb dX8_capture_50 rfl (lv_at hl 2 rfl) ?_
      refine m_rVi (As := [.int a]) (rest := [.ref (g.1 11 0)]) X Y hA hcx (c_m_isPayment l D kc A e0 M hG hwf hpr a) (cwV 1 X.1.2.2.2.2 gX8_capture_X8_isPayment rfl rfl rfl (by decide +kernel) ⟨Nat.le_of_ble_eq_true rfl, Nat.le_of_ble_eq_true rfl⟩) hg1 rfl rfl rfl hl.1 (Nat.le_of_ble_eq_true rfl) dX8_capture_51 ⟨by decide, by decide⟩ (fun H locs Y => ?_)
      refine n_top (bN_f (by rw [hva]; decide)) ?_
      refine n_if_ne hx hb 61 (by omega) dX8_capture_54 (by decide) (fun zq => absurd zq (by decide)) (fun _ => ?_)
      refine n_iconst hx hb 1 dX8_capture_57 (by decide) ?_
      refine lv_goto (tgt := 81) hx hb dX8_capture_58 (by decide) ?_
      refine m_Vi (As := [.int (nI 1)]) (rest := []) X Y hA hcx (c_m_fails l D kc A e0 M hG hwf hpr 1 (by decide)) (cwV 1 X.1.2.2.2.2 gX8_capture_X8_fails rfl rfl rfl (by decide +kernel) ⟨Nat.le_of_ble_eq_true rfl, Nat.le_of_ble_eq_true rfl⟩) hg1 rfl rfl rfl hl.1 (Nat.le_of_ble_eq_true rfl) dX8_capture_81 ⟨by decide, by decide⟩ (fun r2 M3 H locs p4 Y => ?_)
      obtain ⟨hr9, hG5⟩ := p4
      refine n_top (hr9.trans (bN_t (by decide))) ?_
      refine n_if_eq hx hb 89 (by omega) dX8_capture_84 (by decide) (fun zq => absurd zq (by decide)) (fun _ => ?_)
      refine n_iconst hx hb 0 dX8_capture_87 (by decide) ?_
      refine m_iret X Y hr hlocks (by decide) (by decide) ?_ dX8_capture_88
      exact MC_i (c := 1) (by (simp only [sp_capture, hva, hrb, Bool.and_self, Bool.and_true, Bool.and_false, Bool.false_and, Bool.true_and, Bool.false_eq_true, reduceIte]) <;> rfl) hG5
    | true =>
      obtain ⟨jb, hab, hbb, hlb, rfl⟩ := rI_t hrb
      refine lv_aload_n hx hb dX8_capture_0 rfl (lv_at hl 0 rfl) ?_
      refine lv_iload_n hx hb dX8_capture_1 rfl (lv_at hl 1 rfl) ?_
      have hg6 := hG.f11 (hpr 11 (by decide))
      refine m_rVi (As := [.int a]) (rest := []) X Y hA hcx (c_m_isPayment l D kc A e0 M hG hwf hpr a) (cwV 1 X.1.2.2.2.2 gX8_capture_X8_isPayment rfl rfl rfl (by decide +kernel) ⟨Nat.le_of_ble_eq_true rfl, Nat.le_of_ble_eq_true rfl⟩) hg6 rfl rfl rfl hl.1 (Nat.le_of_ble_eq_true rfl) dX8_capture_2 ⟨by decide, by decide⟩ (fun H locs Y => ?_)
      refine n_top (bN_f (by rw [hva]; decide)) ?_
      refine n_if_eq hx hb 46 (by omega) dX8_capture_5 (by decide) (fun _ => ?_) (fun zq => absurd zq (by decide))
      refine n_iconst hx hb 0 dX8_capture_46 (by decide) ?_
      refine lv_istore_n (lv' := [(3, .int (nI 0)), (0, .ref (g.1 11 0)), (1, .int a), (2, .int (nI jb))]) hx hb dX8_capture_47 rfl hl (by decide) rfl (fun ls hl => ?_)
      refine lv_aload_n hx hb dX8_capture_48 rfl (lv_at hl 1 rfl) ?_
      refine lv_aload_n hx hb dX8_capture_49 rfl (lv_at hl 1 rfl) ?_
      refine lv_iload_n hx hb dX8_capture_50 rfl (lv_at hl 2 rfl) ?_
      refine m_rVi (As := [.int a]) (rest := [.ref (g.1 11 0)]) X Y hA hcx (c_m_isPayment l D kc A e0 M hG hwf hpr a) (cwV 1 X.1.2.2.2.2 gX8_capture_X8_isPayment rfl rfl rfl (by decide +kernel) ⟨Nat.le_of_ble_eq_true rfl, Nat.le_of_ble_eq_true rfl⟩) hg6 rfl rfl rfl hl.1 (Nat.le_of_ble_eq_true rfl) dX8_capture_51 ⟨by decide, by decide⟩ (fun H locs Y => ?_)
      refine n_top (bN_f (by rw [hva]; decide)) ?_
      refine n_if_ne hx hb 61 (by omega) dX8_capture_54 (by decide) (fun zq => absurd zq (by decide)) (fun _ => ?_)
      refine n_iconst hx hb 1 dX8_capture_57 (by decide) ?_
      refine lv_goto (tgt := 81) hx hb dX8_capture_58 (by decide) ?_
      refine m_Vi (As := [.int (nI 1)]) (rest := []) X Y hA hcx (c_m_fails l D kc A e0 M hG hwf hpr 1 (by decide)) (cwV 1 X.1.2.2.2.2 gX8_capture_X8_fails rfl rfl rfl (by decide +kernel) ⟨Nat.le_of_ble_eq_true rfl, Nat.le_of_ble_eq_true rfl⟩) hg6 rfl rfl rfl hl.1 (Nat.le_of_ble_eq_true rfl) dX8_capture_81 ⟨by decide, by decide⟩ (fun r7 M8 H locs p9 Y => ?_)
      obtain ⟨hr9, hG10⟩ := p9
      refine n_top (hr9.trans (bN_t (by decide))) ?_
      refine n_if_eq hx hb 89 (by omega) dX8_capture_84 (by decide) (fun zq => absurd zq (by decide)) (fun _ => ?_)
      refine n_iconst hx hb 0 dX8_capture_87 (by decide) ?_
      refine m_iret X Y hr hlocks (by decide) (by decide) ?_ dX8_capture_88
      exact MC_i (c := 1) (by (simp only [sp_capture, hva, hrb, ix_nI hlb, Bool.and_self, Bool.and_true, Bool.and_false, Bool.false_and, Bool.true_and, Bool.false_eq_true, reduceIte]) <;> rfl) hG10
  | true =>
    obtain ⟨ja, hja, hla, rfl⟩ := vI_t hva
    cases hrb : rI b 1 100000 with
    | false =>
      refine lv_aload_n hx hb dX8_capture_0 rfl (lv_at hl 0 rfl) ?_
      refine lv_iload_n hx hb dX8_capture_1 rfl (lv_at hl 1 rfl) ?_
      have hg11 := hG.f11 (hpr 11 (by decide))
      refine m_rVi (As := [.int (nI ja)]) (rest := []) X Y hA hcx (c_m_isPayment l D kc A e0 M hG hwf hpr (nI ja)) (cwV 1 X.1.2.2.2.2 gX8_capture_X8_isPayment rfl rfl rfl (by decide +kernel) ⟨Nat.le_of_ble_eq_true rfl, Nat.le_of_ble_eq_true rfl⟩) hg11 rfl rfl rfl hl.1 (Nat.le_of_ble_eq_true rfl) dX8_capture_2 ⟨by decide, by decide⟩ (fun H locs Y => ?_)
      refine n_top (bN_t hva) ?_
      refine n_if_eq hx hb 46 (by omega) dX8_capture_5 (by decide) (fun zq => absurd zq (by decide)) (fun _ => ?_)
      refine lv_aload_n hx hb dX8_capture_8 rfl (lv_at hl 0 rfl) ?_
      refine lv_iload_n hx hb dX8_capture_9 rfl (lv_at hl 1 rfl) ?_
      refine m_rVi (As := [.int (nI ja)]) (rest := []) X Y hA hcx (c_m_isOpen l D kc A e0 M hG hwf hpr ja hja) (cwV 1 X.1.2.2.2.2 gX8_capture_X8_isOpen rfl rfl rfl (by decide +kernel) ⟨Nat.le_of_ble_eq_true rfl, Nat.le_of_ble_eq_true rfl⟩) hg11 rfl rfl rfl hl.1 (Nat.le_of_ble_eq_true rfl) dX8_capture_10 ⟨by decide, by decide⟩ (fun H locs Y => ?_)
      by_cases hal : τ.1 10 ja = 0 ∧ tD τ ≤ τ.1 9 ja
      · refine n_top (bN_t hal) ?_
        have hw5 := hwf.2.2.2.2.1 _ hja
        refine n_if_eq hx hb 46 (by omega) dX8_capture_13 (by decide) (fun zq => absurd zq (by decide)) (fun _ => ?_)
        refine lv_iload_n hx hb dX8_capture_16 rfl (lv_at hl 2 rfl) ?_
        refine lv_aload_n hx hb dX8_capture_17 rfl (lv_at hl 0 rfl) ?_
        refine m_get (ref := "CardPortModel") (C := RX8) (T := TX8) (N := 25) (ci := 9) X Y htX8_capture_wsX801 hg11 rfl 7 (by decide) kwX8_capture_1 rfl (v := .ref (g.1 12 7)) rfl dX8_capture_18 ?_
        refine lv_iload_n hx hb dX8_capture_21 rfl (lv_at hl 1 rfl) ?_
        refine g_iald X Y hG (hpr 12 (by decide)) (k := 7) (by decide) (j := ja) (show ja < 60 by omega) (v := τ.1 7 ja) rfl dX8_capture_22 ?_
        refine lv_aload_n hx hb dX8_capture_23 rfl (lv_at hl 0 rfl) ?_
        refine m_get (ref := "CardPortModel") (C := RX8) (T := TX8) (N := 25) (ci := 9) X Y htX8_capture_wsX801 hg11 rfl 8 (by decide) kwX8_capture_2 rfl (v := .ref (g.1 12 8)) rfl dX8_capture_24 ?_
        refine lv_iload_n hx hb dX8_capture_27 rfl (lv_at hl 1 rfl) ?_
        refine g_iald X Y hG (hpr 12 (by decide)) (k := 8) (by decide) (j := ja) (show ja < 60 by omega) (v := τ.1 8 ja) rfl dX8_capture_28 ?_
        refine n_isub hx hb (by omega) dX8_capture_29 ?_
        refine lv_icmp_gt (tgt := 46) hx hb dX8_capture_30 (by decide) (fun c30 => ?_) (fun c30 => ?_)
        · refine n_iconst hx hb 0 dX8_capture_46 (by decide) ?_
          refine lv_istore_n (lv' := [(3, .int (nI 0)), (0, .ref (g.1 11 0)), (1, .int (nI ja)), (2, .int b)]) hx hb dX8_capture_47 rfl hl (by decide) rfl (fun ls hl => ?_)
          refine lv_aload_n hx hb dX8_capture_48 rfl (lv_at hl 1 rfl) ?_
          refine lv_aload_n hx hb dX8_capture_49 rfl (lv_at hl 1 rfl) ?_
          refine lv_iload_n hx hb dX8_capture_50 rfl (lv_at hl 2 rfl) ?_
          refine m_rVi (As := [.int (nI ja)]) (rest := [.ref (g.1 11 0)]) X Y hA hcx (c_m_isPayment l D kc A e0 M hG hwf hpr (nI ja)) (cwV 1 X.1.2.2.2.2 gX8_capture_X8_isPayment rfl rfl rfl (by decide +kernel) ⟨Nat.le_of_ble_eq_true rfl, Nat.le_of_ble_eq_true rfl⟩) hg11 rfl rfl rfl hl.1 (Nat.le_of_ble_eq_true rfl) dX8_capture_51 ⟨by decide, by decide⟩ (fun H locs Y => ?_)
          refine n_top (bN_t hva) ?_
          refine n_if_ne hx hb 61 (by omega) dX8_capture_54 (by decide) (fun _ => ?_) (fun zq => absurd zq (by decide))
          refine lv_iload_n hx hb dX8_capture_61 rfl (lv_at hl 3 rfl) ?_
          refine m_rSi (As := [.int b]) (rest := [.ref (g.1 11 0)]) X Y hA hcx (c_m_isAmount l D kc A e0 M b) (va_cwS 1 X.1.2.2.2.2 gX8_capture_X8_isAmount rfl rfl rfl (by decide +kernel) ⟨Nat.le_of_ble_eq_true rfl, Nat.le_of_ble_eq_true rfl⟩) rfl rfl hl.1 (Nat.le_of_ble_eq_true rfl) dX8_capture_62 ⟨by decide, by decide⟩ (fun H locs Y => ?_)
          refine n_top (bN_f (by rw [hrb]; decide)) ?_
          refine n_if_ne hx hb 72 (by omega) dX8_capture_65 (by decide) (fun zq => absurd zq (by decide)) (fun _ => ?_)
          refine n_iconst hx hb 2 dX8_capture_68 (by decide) ?_
          refine lv_goto (tgt := 81) hx hb dX8_capture_69 (by decide) ?_
          refine m_Vi (As := [.int (nI 2)]) (rest := []) X Y hA hcx (c_m_fails l D kc A e0 M hG hwf hpr 2 (by decide)) (cwV 1 X.1.2.2.2.2 gX8_capture_X8_fails rfl rfl rfl (by decide +kernel) ⟨Nat.le_of_ble_eq_true rfl, Nat.le_of_ble_eq_true rfl⟩) hg11 rfl rfl rfl hl.1 (Nat.le_of_ble_eq_true rfl) dX8_capture_81 ⟨by decide, by decide⟩ (fun r12 M13 H locs p14 Y => ?_)
          obtain ⟨hr9, hG15⟩ := p14
          refine n_top (hr9.trans (bN_t (by decide))) ?_
          refine n_if_eq hx hb 89 (by omega) dX8_capture_84 (by decide) (fun zq => absurd zq (by decide)) (fun _ => ?_)
          refine n_iconst hx hb 0 dX8_capture_87 (by decide) ?_
          refine m_iret X Y hr hlocks (by decide) (by decide) ?_ dX8_capture_88
          exact MC_i (c := 2) (by (simp only [sp_capture, hva, ix_nI hla, hrb, Bool.and_self, Bool.and_true, Bool.and_false, Bool.false_and, Bool.true_and, Bool.false_eq_true, reduceIte]) <;> rfl) hG15
        · refine lv_aload_n hx hb dX8_capture_33 rfl (lv_at hl 0 rfl) ?_
          refine m_get (ref := "CardPortModel") (C := RX8) (T := TX8) (N := 25) (ci := 9) X Y htX8_capture_wsX801 hg11 rfl 11 (by decide) kwX8_capture_3 rfl (v := .int (nI (nC τ))) rfl dX8_capture_34 ?_
          refine n_bipush hx hb 100 dX8_capture_37 (by decide) ?_
          refine n_icmp_ge hx hb 46 (by omega) (by omega) dX8_capture_39 (by decide) (fun c39 => ?_) (fun c39 => ?_)
          · refine n_iconst hx hb 0 dX8_capture_46 (by decide) ?_
            refine lv_istore_n (lv' := [(3, .int (nI 0)), (0, .ref (g.1 11 0)), (1, .int (nI ja)), (2, .int b)]) hx hb dX8_capture_47 rfl hl (by decide) rfl (fun ls hl => ?_)
            refine lv_aload_n hx hb dX8_capture_48 rfl (lv_at hl 1 rfl) ?_
            refine lv_aload_n hx hb dX8_capture_49 rfl (lv_at hl 1 rfl) ?_
            refine lv_iload_n hx hb dX8_capture_50 rfl (lv_at hl 2 rfl) ?_
            refine m_rVi (As := [.int (nI ja)]) (rest := [.ref (g.1 11 0)]) X Y hA hcx (c_m_isPayment l D kc A e0 M hG hwf hpr (nI ja)) (cwV 1 X.1.2.2.2.2 gX8_capture_X8_isPayment rfl rfl rfl (by decide +kernel) ⟨Nat.le_of_ble_eq_true rfl, Nat.le_of_ble_eq_true rfl⟩) hg11 rfl rfl rfl hl.1 (Nat.le_of_ble_eq_true rfl) dX8_capture_51 ⟨by decide, by decide⟩ (fun H locs Y => ?_)
            refine n_top (bN_t hva) ?_
            refine n_if_ne hx hb 61 (by omega) dX8_capture_54 (by decide) (fun _ => ?_) (fun zq => absurd zq (by decide))
            refine lv_iload_n hx hb dX8_capture_61 rfl (lv_at hl 3 rfl) ?_
            refine m_rSi (As := [.int b]) (rest := [.ref (g.1 11 0)]) X Y hA hcx (c_m_isAmount l D kc A e0 M b) (va_cwS 1 X.1.2.2.2.2 gX8_capture_X8_isAmount rfl rfl rfl (by decide +kernel) ⟨Nat.le_of_ble_eq_true rfl, Nat.le_of_ble_eq_true rfl⟩) rfl rfl hl.1 (Nat.le_of_ble_eq_true rfl) dX8_capture_62 ⟨by decide, by decide⟩ (fun H locs Y => ?_)
            refine n_top (bN_f (by rw [hrb]; decide)) ?_
            refine n_if_ne hx hb 72 (by omega) dX8_capture_65 (by decide) (fun zq => absurd zq (by decide)) (fun _ => ?_)
            refine n_iconst hx hb 2 dX8_capture_68 (by decide) ?_
            refine lv_goto (tgt := 81) hx hb dX8_capture_69 (by decide) ?_
            refine m_Vi (As := [.int (nI 2)]) (rest := []) X Y hA hcx (c_m_fails l D kc A e0 M hG hwf hpr 2 (by decide)) (cwV 1 X.1.2.2.2.2 gX8_capture_X8_fails rfl rfl rfl (by decide +kernel) ⟨Nat.le_of_ble_eq_true rfl, Nat.le_of_ble_eq_true rfl⟩) hg11 rfl rfl rfl hl.1 (Nat.le_of_ble_eq_true rfl) dX8_capture_81 ⟨by decide, by decide⟩ (fun r16 M17 H locs p18 Y => ?_)
            obtain ⟨hr9, hG19⟩ := p18
            refine n_top (hr9.trans (bN_t (by decide))) ?_
            refine n_if_eq hx hb 89 (by omega) dX8_capture_84 (by decide) (fun zq => absurd zq (by decide)) (fun _ => ?_)
            refine n_iconst hx hb 0 dX8_capture_87 (by decide) ?_
            refine m_iret X Y hr hlocks (by decide) (by decide) ?_ dX8_capture_88
            exact MC_i (c := 2) (by (simp only [sp_capture, hva, ix_nI hla, hrb, Bool.and_self, Bool.and_true, Bool.and_false, Bool.false_and, Bool.true_and, Bool.false_eq_true, reduceIte]) <;> rfl) hG19
          · refine n_iconst hx hb 1 dX8_capture_42 (by decide) ?_
            refine lv_goto (tgt := 47) hx hb dX8_capture_43 (by decide) ?_
            refine lv_istore_n (lv' := [(3, .int (nI 1)), (0, .ref (g.1 11 0)), (1, .int (nI ja)), (2, .int b)]) hx hb dX8_capture_47 rfl hl (by decide) rfl (fun ls hl => ?_)
            refine lv_aload_n hx hb dX8_capture_48 rfl (lv_at hl 1 rfl) ?_
            refine lv_aload_n hx hb dX8_capture_49 rfl (lv_at hl 1 rfl) ?_
            refine lv_iload_n hx hb dX8_capture_50 rfl (lv_at hl 2 rfl) ?_
            refine m_rVi (As := [.int (nI ja)]) (rest := [.ref (g.1 11 0)]) X Y hA hcx (c_m_isPayment l D kc A e0 M hG hwf hpr (nI ja)) (cwV 1 X.1.2.2.2.2 gX8_capture_X8_isPayment rfl rfl rfl (by decide +kernel) ⟨Nat.le_of_ble_eq_true rfl, Nat.le_of_ble_eq_true rfl⟩) hg11 rfl rfl rfl hl.1 (Nat.le_of_ble_eq_true rfl) dX8_capture_51 ⟨by decide, by decide⟩ (fun H locs Y => ?_)
            refine n_top (bN_t hva) ?_
            refine n_if_ne hx hb 61 (by omega) dX8_capture_54 (by decide) (fun _ => ?_) (fun zq => absurd zq (by decide))
            refine lv_iload_n hx hb dX8_capture_61 rfl (lv_at hl 3 rfl) ?_
            refine m_rSi (As := [.int b]) (rest := [.ref (g.1 11 0)]) X Y hA hcx (c_m_isAmount l D kc A e0 M b) (va_cwS 1 X.1.2.2.2.2 gX8_capture_X8_isAmount rfl rfl rfl (by decide +kernel) ⟨Nat.le_of_ble_eq_true rfl, Nat.le_of_ble_eq_true rfl⟩) rfl rfl hl.1 (Nat.le_of_ble_eq_true rfl) dX8_capture_62 ⟨by decide, by decide⟩ (fun H locs Y => ?_)
            refine n_top (bN_f (by rw [hrb]; decide)) ?_
            refine n_if_ne hx hb 72 (by omega) dX8_capture_65 (by decide) (fun zq => absurd zq (by decide)) (fun _ => ?_)
            refine n_iconst hx hb 2 dX8_capture_68 (by decide) ?_
            refine lv_goto (tgt := 81) hx hb dX8_capture_69 (by decide) ?_
            refine m_Vi (As := [.int (nI 2)]) (rest := []) X Y hA hcx (c_m_fails l D kc A e0 M hG hwf hpr 2 (by decide)) (cwV 1 X.1.2.2.2.2 gX8_capture_X8_fails rfl rfl rfl (by decide +kernel) ⟨Nat.le_of_ble_eq_true rfl, Nat.le_of_ble_eq_true rfl⟩) hg11 rfl rfl rfl hl.1 (Nat.le_of_ble_eq_true rfl) dX8_capture_81 ⟨by decide, by decide⟩ (fun r20 M21 H locs p22 Y => ?_)
            obtain ⟨hr9, hG23⟩ := p22
            refine n_top (hr9.trans (bN_t (by decide))) ?_
            refine n_if_eq hx hb 89 (by omega) dX8_capture_84 (by decide) (fun zq => absurd zq (by decide)) (fun _ => ?_)
            refine n_iconst hx hb 0 dX8_capture_87 (by decide) ?_
            refine m_iret X Y hr hlocks (by decide) (by decide) ?_ dX8_capture_88
            exact MC_i (c := 2) (by (simp only [sp_capture, hva, ix_nI hla, hrb, Bool.and_self, Bool.and_true, Bool.and_false, Bool.false_and, Bool.true_and, Bool.false_eq_true, reduceIte]) <;> rfl) hG23
      · refine n_top (bN_f hal) ?_
        have hw5 := hwf.2.2.2.2.1 _ hja
        refine n_if_eq hx hb 46 (by omega) dX8_capture_13 (by decide) (fun _ => ?_) (fun zq => absurd zq (by decide))
        refine n_iconst hx hb 0 dX8_capture_46 (by decide) ?_
        refine lv_istore_n (lv' := [(3, .int (nI 0)), (0, .ref (g.1 11 0)), (1, .int (nI ja)), (2, .int b)]) hx hb dX8_capture_47 rfl hl (by decide) rfl (fun ls hl => ?_)
        refine lv_aload_n hx hb dX8_capture_48 rfl (lv_at hl 1 rfl) ?_
        refine lv_aload_n hx hb dX8_capture_49 rfl (lv_at hl 1 rfl) ?_
        refine lv_iload_n hx hb dX8_capture_50 rfl (lv_at hl 2 rfl) ?_
        refine m_rVi (As := [.int (nI ja)]) (rest := [.ref (g.1 11 0)]) X Y hA hcx (c_m_isPayment l D kc A e0 M hG hwf hpr (nI ja)) (cwV 1 X.1.2.2.2.2 gX8_capture_X8_isPayment rfl rfl rfl (by decide +kernel) ⟨Nat.le_of_ble_eq_true rfl, Nat.le_of_ble_eq_true rfl⟩) hg11 rfl rfl rfl hl.1 (Nat.le_of_ble_eq_true rfl) dX8_capture_51 ⟨by decide, by decide⟩ (fun H locs Y => ?_)
        refine n_top (bN_t hva) ?_
        refine n_if_ne hx hb 61 (by omega) dX8_capture_54 (by decide) (fun _ => ?_) (fun zq => absurd zq (by decide))
        refine lv_iload_n hx hb dX8_capture_61 rfl (lv_at hl 3 rfl) ?_
        refine m_rSi (As := [.int b]) (rest := [.ref (g.1 11 0)]) X Y hA hcx (c_m_isAmount l D kc A e0 M b) (va_cwS 1 X.1.2.2.2.2 gX8_capture_X8_isAmount rfl rfl rfl (by decide +kernel) ⟨Nat.le_of_ble_eq_true rfl, Nat.le_of_ble_eq_true rfl⟩) rfl rfl hl.1 (Nat.le_of_ble_eq_true rfl) dX8_capture_62 ⟨by decide, by decide⟩ (fun H locs Y => ?_)
        refine n_top (bN_f (by rw [hrb]; decide)) ?_
        refine n_if_ne hx hb 72 (by omega) dX8_capture_65 (by decide) (fun zq => absurd zq (by decide)) (fun _ => ?_)
        refine n_iconst hx hb 2 dX8_capture_68 (by decide) ?_
        refine lv_goto (tgt := 81) hx hb dX8_capture_69 (by decide) ?_
        refine m_Vi (As := [.int (nI 2)]) (rest := []) X Y hA hcx (c_m_fails l D kc A e0 M hG hwf hpr 2 (by decide)) (cwV 1 X.1.2.2.2.2 gX8_capture_X8_fails rfl rfl rfl (by decide +kernel) ⟨Nat.le_of_ble_eq_true rfl, Nat.le_of_ble_eq_true rfl⟩) hg11 rfl rfl rfl hl.1 (Nat.le_of_ble_eq_true rfl) dX8_capture_81 ⟨by decide, by decide⟩ (fun r24 M25 H locs p26 Y => ?_)
        obtain ⟨hr9, hG27⟩ := p26
        refine n_top (hr9.trans (bN_t (by decide))) ?_
        refine n_if_eq hx hb 89 (by omega) dX8_capture_84 (by decide) (fun zq => absurd zq (by decide)) (fun _ => ?_)
        refine n_iconst hx hb 0 dX8_capture_87 (by decide) ?_
        refine m_iret X Y hr hlocks (by decide) (by decide) ?_ dX8_capture_88
        exact MC_i (c := 2) (by (simp only [sp_capture, hva, ix_nI hla, hrb, Bool.and_self, Bool.and_true, Bool.and_false, Bool.false_and, Bool.true_and, Bool.false_eq_true, reduceIte]) <;> rfl) hG27
    | true =>
      obtain ⟨jb, hab, hbb, hlb, rfl⟩ := rI_t hrb
      refine lv_aload_n hx hb dX8_capture_0 rfl (lv_at hl 0 rfl) ?_
      refine lv_iload_n hx hb dX8_capture_1 rfl (lv_at hl 1 rfl) ?_
      have hg28 := hG.f11 (hpr 11 (by decide))
      refine m_rVi (As := [.int (nI ja)]) (rest := []) X Y hA hcx (c_m_isPayment l D kc A e0 M hG hwf hpr (nI ja)) (cwV 1 X.1.2.2.2.2 gX8_capture_X8_isPayment rfl rfl rfl (by decide +kernel) ⟨Nat.le_of_ble_eq_true rfl, Nat.le_of_ble_eq_true rfl⟩) hg28 rfl rfl rfl hl.1 (Nat.le_of_ble_eq_true rfl) dX8_capture_2 ⟨by decide, by decide⟩ (fun H locs Y => ?_)
      refine n_top (bN_t hva) ?_
      refine n_if_eq hx hb 46 (by omega) dX8_capture_5 (by decide) (fun zq => absurd zq (by decide)) (fun _ => ?_)
      refine lv_aload_n hx hb dX8_capture_8 rfl (lv_at hl 0 rfl) ?_
      refine lv_iload_n hx hb dX8_capture_9 rfl (lv_at hl 1 rfl) ?_
      refine m_rVi (As := [.int (nI ja)]) (rest := []) X Y hA hcx (c_m_isOpen l D kc A e0 M hG hwf hpr ja hja) (cwV 1 X.1.2.2.2.2 gX8_capture_X8_isOpen rfl rfl rfl (by decide +kernel) ⟨Nat.le_of_ble_eq_true rfl, Nat.le_of_ble_eq_true rfl⟩) hg28 rfl rfl rfl hl.1 (Nat.le_of_ble_eq_true rfl) dX8_capture_10 ⟨by decide, by decide⟩ (fun H locs Y => ?_)
      by_cases hal : τ.1 10 ja = 0 ∧ tD τ ≤ τ.1 9 ja
      · refine n_top (bN_t hal) ?_
        have hw5 := hwf.2.2.2.2.1 _ hja
        refine n_if_eq hx hb 46 (by omega) dX8_capture_13 (by decide) (fun zq => absurd zq (by decide)) (fun _ => ?_)
        refine lv_iload_n hx hb dX8_capture_16 rfl (lv_at hl 2 rfl) ?_
        refine lv_aload_n hx hb dX8_capture_17 rfl (lv_at hl 0 rfl) ?_
        refine m_get (ref := "CardPortModel") (C := RX8) (T := TX8) (N := 25) (ci := 9) X Y htX8_capture_wsX801 hg28 rfl 7 (by decide) kwX8_capture_1 rfl (v := .ref (g.1 12 7)) rfl dX8_capture_18 ?_
        refine lv_iload_n hx hb dX8_capture_21 rfl (lv_at hl 1 rfl) ?_
        refine g_iald X Y hG (hpr 12 (by decide)) (k := 7) (by decide) (j := ja) (show ja < 60 by omega) (v := τ.1 7 ja) rfl dX8_capture_22 ?_
        refine lv_aload_n hx hb dX8_capture_23 rfl (lv_at hl 0 rfl) ?_
        refine m_get (ref := "CardPortModel") (C := RX8) (T := TX8) (N := 25) (ci := 9) X Y htX8_capture_wsX801 hg28 rfl 8 (by decide) kwX8_capture_2 rfl (v := .ref (g.1 12 8)) rfl dX8_capture_24 ?_
        refine lv_iload_n hx hb dX8_capture_27 rfl (lv_at hl 1 rfl) ?_
        refine g_iald X Y hG (hpr 12 (by decide)) (k := 8) (by decide) (j := ja) (show ja < 60 by omega) (v := τ.1 8 ja) rfl dX8_capture_28 ?_
        refine n_isub hx hb (by omega) dX8_capture_29 ?_
        refine n_icmp_gt hx hb 46 (by omega) (by omega) dX8_capture_30 (by decide) (fun c30 => ?_) (fun c30 => ?_)
        · refine n_iconst hx hb 0 dX8_capture_46 (by decide) ?_
          refine lv_istore_n (lv' := [(3, .int (nI 0)), (0, .ref (g.1 11 0)), (1, .int (nI ja)), (2, .int (nI jb))]) hx hb dX8_capture_47 rfl hl (by decide) rfl (fun ls hl => ?_)
          refine lv_aload_n hx hb dX8_capture_48 rfl (lv_at hl 1 rfl) ?_
          refine lv_aload_n hx hb dX8_capture_49 rfl (lv_at hl 1 rfl) ?_
          refine lv_iload_n hx hb dX8_capture_50 rfl (lv_at hl 2 rfl) ?_
          refine m_rVi (As := [.int (nI ja)]) (rest := [.ref (g.1 11 0)]) X Y hA hcx (c_m_isPayment l D kc A e0 M hG hwf hpr (nI ja)) (cwV 1 X.1.2.2.2.2 gX8_capture_X8_isPayment rfl rfl rfl (by decide +kernel) ⟨Nat.le_of_ble_eq_true rfl, Nat.le_of_ble_eq_true rfl⟩) hg28 rfl rfl rfl hl.1 (Nat.le_of_ble_eq_true rfl) dX8_capture_51 ⟨by decide, by decide⟩ (fun H locs Y => ?_)
          refine n_top (bN_t hva) ?_
          refine n_if_ne hx hb 61 (by omega) dX8_capture_54 (by decide) (fun _ => ?_) (fun zq => absurd zq (by decide))
          refine lv_iload_n hx hb dX8_capture_61 rfl (lv_at hl 3 rfl) ?_
          refine m_rSi (As := [.int (nI jb)]) (rest := [.ref (g.1 11 0)]) X Y hA hcx (c_m_isAmount l D kc A e0 M (nI jb)) (va_cwS 1 X.1.2.2.2.2 gX8_capture_X8_isAmount rfl rfl rfl (by decide +kernel) ⟨Nat.le_of_ble_eq_true rfl, Nat.le_of_ble_eq_true rfl⟩) rfl rfl hl.1 (Nat.le_of_ble_eq_true rfl) dX8_capture_62 ⟨by decide, by decide⟩ (fun H locs Y => ?_)
          refine n_top (bN_t hrb) ?_
          refine n_if_ne hx hb 72 (by omega) dX8_capture_65 (by decide) (fun _ => ?_) (fun zq => absurd zq (by decide))
          refine lv_iload_n hx hb dX8_capture_72 rfl (lv_at hl 0 rfl) ?_
          refine n_if_eq hx hb 80 (by omega) dX8_capture_73 (by decide) (fun _ => ?_) (fun zq => absurd zq (by decide))
          refine n_iconst hx hb 3 dX8_capture_80 (by decide) ?_
          refine m_Vi (As := [.int (nI 3)]) (rest := []) X Y hA hcx (c_m_fails l D kc A e0 M hG hwf hpr 3 (by decide)) (cwV 1 X.1.2.2.2.2 gX8_capture_X8_fails rfl rfl rfl (by decide +kernel) ⟨Nat.le_of_ble_eq_true rfl, Nat.le_of_ble_eq_true rfl⟩) hg28 rfl rfl rfl hl.1 (Nat.le_of_ble_eq_true rfl) dX8_capture_81 ⟨by decide, by decide⟩ (fun r29 M30 H locs p31 Y => ?_)
          obtain ⟨hr9, hG32⟩ := p31
          refine n_top (hr9.trans (bN_t (by decide))) ?_
          refine n_if_eq hx hb 89 (by omega) dX8_capture_84 (by decide) (fun zq => absurd zq (by decide)) (fun _ => ?_)
          refine n_iconst hx hb 0 dX8_capture_87 (by decide) ?_
          refine m_iret X Y hr hlocks (by decide) (by decide) ?_ dX8_capture_88
          exact MC_i (c := 3) (by (simp only [sp_capture, hva, ix_nI hla, hrb, ix_nI hlb, Bool.and_self, Bool.and_true, Bool.and_false, Bool.false_and, Bool.true_and, Bool.false_eq_true, reduceIte]; rw [if_neg (fun zq => by have z3 := zq.2.1; omega)]) <;> rfl) hG32
        · refine lv_aload_n hx hb dX8_capture_33 rfl (lv_at hl 0 rfl) ?_
          refine m_get (ref := "CardPortModel") (C := RX8) (T := TX8) (N := 25) (ci := 9) X Y htX8_capture_wsX801 hg28 rfl 11 (by decide) kwX8_capture_3 rfl (v := .int (nI (nC τ))) rfl dX8_capture_34 ?_
          refine n_bipush hx hb 100 dX8_capture_37 (by decide) ?_
          refine n_icmp_ge hx hb 46 (by omega) (by omega) dX8_capture_39 (by decide) (fun c39 => ?_) (fun c39 => ?_)
          · refine n_iconst hx hb 0 dX8_capture_46 (by decide) ?_
            refine lv_istore_n (lv' := [(3, .int (nI 0)), (0, .ref (g.1 11 0)), (1, .int (nI ja)), (2, .int (nI jb))]) hx hb dX8_capture_47 rfl hl (by decide) rfl (fun ls hl => ?_)
            refine lv_aload_n hx hb dX8_capture_48 rfl (lv_at hl 1 rfl) ?_
            refine lv_aload_n hx hb dX8_capture_49 rfl (lv_at hl 1 rfl) ?_
            refine lv_iload_n hx hb dX8_capture_50 rfl (lv_at hl 2 rfl) ?_
            refine m_rVi (As := [.int (nI ja)]) (rest := [.ref (g.1 11 0)]) X Y hA hcx (c_m_isPayment l D kc A e0 M hG hwf hpr (nI ja)) (cwV 1 X.1.2.2.2.2 gX8_capture_X8_isPayment rfl rfl rfl (by decide +kernel) ⟨Nat.le_of_ble_eq_true rfl, Nat.le_of_ble_eq_true rfl⟩) hg28 rfl rfl rfl hl.1 (Nat.le_of_ble_eq_true rfl) dX8_capture_51 ⟨by decide, by decide⟩ (fun H locs Y => ?_)
            refine n_top (bN_t hva) ?_
            refine n_if_ne hx hb 61 (by omega) dX8_capture_54 (by decide) (fun _ => ?_) (fun zq => absurd zq (by decide))
            refine lv_iload_n hx hb dX8_capture_61 rfl (lv_at hl 3 rfl) ?_
            refine m_rSi (As := [.int (nI jb)]) (rest := [.ref (g.1 11 0)]) X Y hA hcx (c_m_isAmount l D kc A e0 M (nI jb)) (va_cwS 1 X.1.2.2.2.2 gX8_capture_X8_isAmount rfl rfl rfl (by decide +kernel) ⟨Nat.le_of_ble_eq_true rfl, Nat.le_of_ble_eq_true rfl⟩) rfl rfl hl.1 (Nat.le_of_ble_eq_true rfl) dX8_capture_62 ⟨by decide, by decide⟩ (fun H locs Y => ?_)
            refine n_top (bN_t hrb) ?_
            refine n_if_ne hx hb 72 (by omega) dX8_capture_65 (by decide) (fun _ => ?_) (fun zq => absurd zq (by decide))
            refine lv_iload_n hx hb dX8_capture_72 rfl (lv_at hl 0 rfl) ?_
            refine n_if_eq hx hb 80 (by omega) dX8_capture_73 (by decide) (fun _ => ?_) (fun zq => absurd zq (by decide))
            refine n_iconst hx hb 3 dX8_capture_80 (by decide) ?_
            refine m_Vi (As := [.int (nI 3)]) (rest := []) X Y hA hcx (c_m_fails l D kc A e0 M hG hwf hpr 3 (by decide)) (cwV 1 X.1.2.2.2.2 gX8_capture_X8_fails rfl rfl rfl (by decide +kernel) ⟨Nat.le_of_ble_eq_true rfl, Nat.le_of_ble_eq_true rfl⟩) hg28 rfl rfl rfl hl.1 (Nat.le_of_ble_eq_true rfl) dX8_capture_81 ⟨by decide, by decide⟩ (fun r33 M34 H locs p35 Y => ?_)
            obtain ⟨hr9, hG36⟩ := p35
            refine n_top (hr9.trans (bN_t (by decide))) ?_
            refine n_if_eq hx hb 89 (by omega) dX8_capture_84 (by decide) (fun zq => absurd zq (by decide)) (fun _ => ?_)
            refine n_iconst hx hb 0 dX8_capture_87 (by decide) ?_
            refine m_iret X Y hr hlocks (by decide) (by decide) ?_ dX8_capture_88
            exact MC_i (c := 3) (by (simp only [sp_capture, hva, ix_nI hla, hrb, ix_nI hlb, Bool.and_self, Bool.and_true, Bool.and_false, Bool.false_and, Bool.true_and, Bool.false_eq_true, reduceIte]; rw [if_neg (fun zq => by have z3 := zq.2.2; omega)]) <;> rfl) hG36
          · refine n_iconst hx hb 1 dX8_capture_42 (by decide) ?_
            refine lv_goto (tgt := 47) hx hb dX8_capture_43 (by decide) ?_
            refine lv_istore_n (lv' := [(3, .int (nI 1)), (0, .ref (g.1 11 0)), (1, .int (nI ja)), (2, .int (nI jb))]) hx hb dX8_capture_47 rfl hl (by decide) rfl (fun ls hl => ?_)
            refine lv_aload_n hx hb dX8_capture_48 rfl (lv_at hl 1 rfl) ?_
            refine lv_aload_n hx hb dX8_capture_49 rfl (lv_at hl 1 rfl) ?_
            refine lv_iload_n hx hb dX8_capture_50 rfl (lv_at hl 2 rfl) ?_
            refine m_rVi (As := [.int (nI ja)]) (rest := [.ref (g.1 11 0)]) X Y hA hcx (c_m_isPayment l D kc A e0 M hG hwf hpr (nI ja)) (cwV 1 X.1.2.2.2.2 gX8_capture_X8_isPayment rfl rfl rfl (by decide +kernel) ⟨Nat.le_of_ble_eq_true rfl, Nat.le_of_ble_eq_true rfl⟩) hg28 rfl rfl rfl hl.1 (Nat.le_of_ble_eq_true rfl) dX8_capture_51 ⟨by decide, by decide⟩ (fun H locs Y => ?_)
            refine n_top (bN_t hva) ?_
            refine n_if_ne hx hb 61 (by omega) dX8_capture_54 (by decide) (fun _ => ?_) (fun zq => absurd zq (by decide))
            refine lv_iload_n hx hb dX8_capture_61 rfl (lv_at hl 3 rfl) ?_
            refine m_rSi (As := [.int (nI jb)]) (rest := [.ref (g.1 11 0)]) X Y hA hcx (c_m_isAmount l D kc A e0 M (nI jb)) (va_cwS 1 X.1.2.2.2.2 gX8_capture_X8_isAmount rfl rfl rfl (by decide +kernel) ⟨Nat.le_of_ble_eq_true rfl, Nat.le_of_ble_eq_true rfl⟩) rfl rfl hl.1 (Nat.le_of_ble_eq_true rfl) dX8_capture_62 ⟨by decide, by decide⟩ (fun H locs Y => ?_)
            refine n_top (bN_t hrb) ?_
            refine n_if_ne hx hb 72 (by omega) dX8_capture_65 (by decide) (fun _ => ?_) (fun zq => absurd zq (by decide))
            refine lv_iload_n hx hb dX8_capture_72 rfl (lv_at hl 0 rfl) ?_
            refine n_if_eq hx hb 80 (by omega) dX8_capture_73 (by decide) (fun zq => absurd zq (by decide)) (fun _ => ?_)
            refine n_iconst hx hb 0 dX8_capture_76 (by decide) ?_
            refine lv_goto (tgt := 81) hx hb dX8_capture_77 (by decide) ?_
            refine m_Vi (As := [.int (nI 0)]) (rest := []) X Y hA hcx (c_m_fails l D kc A e0 M hG hwf hpr 0 (by decide)) (cwV 1 X.1.2.2.2.2 gX8_capture_X8_fails rfl rfl rfl (by decide +kernel) ⟨Nat.le_of_ble_eq_true rfl, Nat.le_of_ble_eq_true rfl⟩) hg28 rfl rfl rfl hl.1 (Nat.le_of_ble_eq_true rfl) dX8_capture_81 ⟨by decide, by decide⟩ (fun r37 M38 H locs p39 Y => ?_)
            obtain ⟨hr9, hG40⟩ := p39
            refine n_top (hr9.trans (bN_f (by decide))) ?_
            refine n_if_eq hx hb 89 (by omega) dX8_capture_84 (by decide) (fun _ => ?_) (fun zq => absurd zq (by decide))
            have hcx9 : alive τ ja ∧ τ.1 8 ja + jb ≤ τ.1 7 ja ∧ nC τ < 100 := ⟨hal, by omega, by omega⟩
            refine lv_aload_n hx hb dX8_capture_89 rfl (lv_at hl 1 rfl) ?_
            have hg41 := hG40.f11 (hpr 11 (by decide))
            refine m_get (ref := "CardPortModel") (C := RX8) (T := TX8) (N := 25) (ci := 9) X Y htX8_capture_wsX801 hg41 rfl 11 (by decide) kwX8_capture_3 rfl (v := .int (nI (nC τ))) rfl dX8_capture_90 ?_
            refine lv_istore (lv' := [(4, .int (nI (nC τ))), (3, .int (nI 1)), (0, .ref (g.1 11 0)), (1, .int (nI ja)), (2, .int (nI jb))]) hx hb dX8_capture_93 hl (by decide) rfl (fun ls hl => ?_)
            refine lv_aload_n hx hb dX8_capture_95 rfl (lv_at hl 2 rfl) ?_
            refine m_get (ref := "CardPortModel") (C := RX8) (T := TX8) (N := 25) (ci := 9) X Y htX8_capture_wsX801 hg41 rfl 12 (by decide) kwX8_capture_4 rfl (v := .ref (g.1 12 12)) rfl dX8_capture_96 ?_
            refine lv_iload hx hb dX8_capture_99 (lv_at hl 0 rfl) ?_
            refine lv_iload_n hx hb dX8_capture_101 rfl (lv_at hl 3 rfl) ?_
            refine g_iast X Y hG40 (hpr 12 (by decide)) (k := 12) (by decide) (j := nC τ) (v := ja) (show nC τ < 100 by omega) dX8_capture_102 (fun M42 H locs hG43 Y => ?_)
            refine lv_aload_n hx hb dX8_capture_103 rfl (lv_at hl 2 rfl) ?_
            have hg44 := hG43.f11 (hpr 11 (by decide))
            refine m_get (ref := "CardPortModel") (C := RX8) (T := TX8) (N := 25) (ci := 9) X Y htX8_capture_wsX801 hg44 rfl 13 (by decide) kwX8_capture_5 rfl (v := .ref (g.1 12 13)) rfl dX8_capture_104 ?_
            refine lv_iload hx hb dX8_capture_107 (lv_at hl 0 rfl) ?_
            refine lv_iload_n hx hb dX8_capture_109 rfl (lv_at hl 4 rfl) ?_
            refine g_iast X Y hG43 (hpr 12 (by decide)) (k := 13) (by decide) (j := nC τ) (v := jb) (show nC τ < 100 by omega) dX8_capture_110 (fun M45 H locs hG46 Y => ?_)
            refine lv_aload_n hx hb dX8_capture_111 rfl (lv_at hl 2 rfl) ?_
            have hg47 := hG46.f11 (hpr 11 (by decide))
            refine m_get (ref := "CardPortModel") (C := RX8) (T := TX8) (N := 25) (ci := 9) X Y htX8_capture_wsX801 hg47 rfl 14 (by decide) kwX8_capture_6 rfl (v := .ref (g.1 12 14)) rfl dX8_capture_112 ?_
            refine lv_iload hx hb dX8_capture_115 (lv_at hl 0 rfl) ?_
            refine lv_aload_n hx hb dX8_capture_117 rfl (lv_at hl 2 rfl) ?_
            refine lv_aload_n hx hb dX8_capture_118 rfl (lv_at hl 2 rfl) ?_
            refine m_get (ref := "CardPortModel") (C := RX8) (T := TX8) (N := 25) (ci := 9) X Y htX8_capture_wsX801 hg47 rfl 1 (by decide) kwX8_capture_7 rfl (v := .ref (g.1 12 1)) rfl dX8_capture_119 ?_
            refine lv_aload_n hx hb dX8_capture_122 rfl (lv_at hl 2 rfl) ?_
            refine m_get (ref := "CardPortModel") (C := RX8) (T := TX8) (N := 25) (ci := 9) X Y htX8_capture_wsX801 hg47 rfl 6 (by decide) kwX8_capture_8 rfl (v := .ref (g.1 12 6)) rfl dX8_capture_123 ?_
            refine lv_iload_n hx hb dX8_capture_126 rfl (lv_at hl 3 rfl) ?_
            refine g_iald X Y hG46 (hpr 12 (by decide)) (k := 6) (by decide) (j := ja) (show ja < 60 by omega) (v := τ.1 6 ja) (by simp [up2]) dX8_capture_127 ?_
            refine g_iald X Y hG46 (hpr 12 (by decide)) (k := 1) (by decide) (j := τ.1 6 ja) (show τ.1 6 ja < 8 by omega) (v := τ.1 1 (τ.1 6 ja)) (by simp [up2]) dX8_capture_128 ?_
            refine lv_iload_n hx hb dX8_capture_129 rfl (lv_at hl 4 rfl) ?_
            have hwk := hwf.2.2.1 (τ.1 1 (τ.1 6 ja))
            have hmul : jb * τ.1 2 (τ.1 1 (τ.1 6 ja)) ≤ 100000 * 100 := Nat.mul_le_mul (by omega) hwk.1
            have hfe : cfeN τ ja jb ≤ jb := feeN_le _ _ _ hwk.1
            refine m_rVi (As := [.int (nI (τ.1 1 (τ.1 6 ja))), .int (nI jb)]) (rest := [.int (nI (nC τ)), .ref (g.1 12 14)]) X Y hA hcx (c_m_feeOf l D kc A e0 M45 hG46 hpr (τ.1 1 (τ.1 6 ja)) jb (hwf.2.1 (τ.1 6 ja)) (by omega) (show jb * τ.1 2 (τ.1 1 (τ.1 6 ja)) < 2147483648 by omega) (show τ.1 3 (τ.1 1 (τ.1 6 ja)) < 2147483648 by omega) (show τ.1 2 (τ.1 1 (τ.1 6 ja)) < 2147483648 by omega)) (cwV 2 X.1.2.2.2.2 gX8_capture_X8_feeOf rfl rfl rfl (by decide +kernel) ⟨Nat.le_of_ble_eq_true rfl, Nat.le_of_ble_eq_true rfl⟩) hg47 rfl rfl rfl hl.1 (Nat.le_of_ble_eq_true rfl) dX8_capture_130 ⟨by decide, by decide⟩ (fun H locs Y => ?_)
            refine g_iast X Y hG46 (hpr 12 (by decide)) (k := 14) (by decide) (j := nC τ) (v := cfeN τ ja jb) (show nC τ < 100 by omega) dX8_capture_133 (fun M48 H locs hG49 Y => ?_)
            refine lv_aload_n hx hb dX8_capture_134 rfl (lv_at hl 2 rfl) ?_
            have hg50 := hG49.f11 (hpr 11 (by decide))
            refine m_get (ref := "CardPortModel") (C := RX8) (T := TX8) (N := 25) (ci := 9) X Y htX8_capture_wsX801 hg50 rfl 8 (by decide) kwX8_capture_2 rfl (v := .ref (g.1 12 8)) rfl dX8_capture_135 ?_
            refine lv_iload_n hx hb dX8_capture_138 rfl (lv_at hl 3 rfl) ?_
            refine lv_dup2_11 hx hb dX8_capture_139 rfl rfl ?_
            refine g_iald X Y hG49 (hpr 12 (by decide)) (k := 8) (by decide) (j := ja) (show ja < 60 by omega) (v := τ.1 8 ja) (by simp [up2]) dX8_capture_140 ?_
            refine lv_iload_n hx hb dX8_capture_141 rfl (lv_at hl 4 rfl) ?_
            refine n_iadd hx hb dX8_capture_142 ?_
            refine g_iast X Y hG49 (hpr 12 (by decide)) (k := 8) (by decide) (j := ja) (v := (τ.1 8 ja) + jb) (show ja < 60 by omega) dX8_capture_143 (fun M51 H locs hG52 Y => ?_)
            refine lv_aload_n hx hb dX8_capture_144 rfl (lv_at hl 2 rfl) ?_
            refine lv_dup hx hb dX8_capture_145 rfl ?_
            have hg53 := hG52.f11 (hpr 11 (by decide))
            refine m_get (ref := "CardPortModel") (C := RX8) (T := TX8) (N := 25) (ci := 9) X Y htX8_capture_wsX801 hg53 rfl 11 (by decide) kwX8_capture_3 rfl (v := .int (nI (nC τ))) rfl dX8_capture_146 ?_
            refine n_iconst hx hb 1 dX8_capture_149 (by decide) ?_
            refine n_iadd hx hb dX8_capture_150 ?_
            refine m_put (ref := "CardPortModel") (C := RX8) (T := TX8) (N := 25) (ci := 9) X Y htX8_capture_wsX801 tyX8 tyX8_ok nmX8 hg53 rfl 11 (by decide) kwX8_capture_3 rfl rfl (v := .int (nI ((nC τ) + 1))) rfl rfl (Nat.le_of_ble_eq_true rfl) dX8_capture_151 (fun H locs Y => ?_)
            obtain ⟨M54, eM54⟩ : ∃ zz9 : Mp, zz9 = mu M51 (g.1 11 0) (.inr (9, [.int (nI (tD τ)), .ref (g.1 12 1), .ref (g.1 12 2), .ref (g.1 12 3), .int (nI (nP τ)), .ref (g.1 12 5), .ref (g.1 12 6), .ref (g.1 12 7), .ref (g.1 12 8), .ref (g.1 12 9), .ref (g.1 12 10), .int (nI ((nC τ) + 1)), .ref (g.1 12 12), .ref (g.1 12 13), .ref (g.1 12 14), .ref (g.1 12 15), .int (nI (nB τ)), .ref (g.1 12 17), .ref (g.1 12 18), .ref (g.1 12 19), .ref (g.1 12 20), .int (nI (τ.1 21 0)), .ref (g.1 12 22), .ref (g.1 12 23), .int (nI 0)])) := ⟨_, rfl⟩
            replace Y : mY D A M54 s H locs := by rw [eM54]; exact Y
            have hh55 : M54 (g.1 11 0) = some (.inr (9, [.int (nI (tD τ)), .ref (g.1 12 1), .ref (g.1 12 2), .ref (g.1 12 3), .int (nI (nP τ)), .ref (g.1 12 5), .ref (g.1 12 6), .ref (g.1 12 7), .ref (g.1 12 8), .ref (g.1 12 9), .ref (g.1 12 10), .int (nI ((nC τ) + 1)), .ref (g.1 12 12), .ref (g.1 12 13), .ref (g.1 12 14), .ref (g.1 12 15), .int (nI (nB τ)), .ref (g.1 12 17), .ref (g.1 12 18), .ref (g.1 12 19), .ref (g.1 12 20), .int (nI (τ.1 21 0)), .ref (g.1 12 22), .ref (g.1 12 23), .int (nI 0)])) := by rw [eM54]; exact mu_self _ _ _
            have hG56 : G pr kc e0 σ ((up2 (up2 (up2 (up2 (up2 τ.1 12 (nC τ) ja) 13 (nC τ) jb) 14 (nC τ) (cfeN τ ja jb)) 8 ja ((τ.1 8 ja) + jb)) 11 0 ((nC τ) + 1)), τ.2) (nI 0) o g M54 := by rw [eM54]; exact hG52.setF (hpr 11 (by decide)) (k := 11) (v := (nC τ) + 1) (by decide)
            refine lv_aload_n hx hb dX8_capture_154 rfl (lv_at hl 2 rfl) ?_
            refine lv_dup hx hb dX8_capture_155 rfl ?_
            have hg57 := hG56.f11 (hpr 11 (by decide))
            refine m_get (ref := "CardPortModel") (C := RX8) (T := TX8) (N := 25) (ci := 9) X Y htX8_capture_wsX801 hg57 rfl 21 (by decide) kwX8_capture_9 rfl (v := .int (nI (τ.1 21 0))) rfl dX8_capture_156 ?_
            refine lv_aload_n hx hb dX8_capture_159 rfl (lv_at hl 2 rfl) ?_
            refine m_get (ref := "CardPortModel") (C := RX8) (T := TX8) (N := 25) (ci := 9) X Y htX8_capture_wsX801 hg57 rfl 14 (by decide) kwX8_capture_6 rfl (v := .ref (g.1 12 14)) rfl dX8_capture_160 ?_
            refine lv_iload hx hb dX8_capture_163 (lv_at hl 0 rfl) ?_
            refine g_iald X Y hG56 (hpr 12 (by decide)) (k := 14) (by decide) (j := nC τ) (show nC τ < 100 by omega) (v := cfeN τ ja jb) (by simp [up2]) dX8_capture_165 ?_
            refine n_iadd hx hb dX8_capture_166 ?_
            refine m_put (ref := "CardPortModel") (C := RX8) (T := TX8) (N := 25) (ci := 9) X Y htX8_capture_wsX801 tyX8 tyX8_ok nmX8 hg57 rfl 21 (by decide) kwX8_capture_9 rfl rfl (v := .int (nI ((τ.1 21 0) + (cfeN τ ja jb)))) rfl rfl (Nat.le_of_ble_eq_true rfl) dX8_capture_167 (fun H locs Y => ?_)
            obtain ⟨M58, eM58⟩ : ∃ zz9 : Mp, zz9 = mu M54 (g.1 11 0) (.inr (9, [.int (nI (tD τ)), .ref (g.1 12 1), .ref (g.1 12 2), .ref (g.1 12 3), .int (nI (nP τ)), .ref (g.1 12 5), .ref (g.1 12 6), .ref (g.1 12 7), .ref (g.1 12 8), .ref (g.1 12 9), .ref (g.1 12 10), .int (nI ((nC τ) + 1)), .ref (g.1 12 12), .ref (g.1 12 13), .ref (g.1 12 14), .ref (g.1 12 15), .int (nI (nB τ)), .ref (g.1 12 17), .ref (g.1 12 18), .ref (g.1 12 19), .ref (g.1 12 20), .int (nI ((τ.1 21 0) + (cfeN τ ja jb))), .ref (g.1 12 22), .ref (g.1 12 23), .int (nI 0)])) := ⟨_, rfl⟩
            replace Y : mY D A M58 s H locs := by rw [eM58]; exact Y
            have hh59 : M58 (g.1 11 0) = some (.inr (9, [.int (nI (tD τ)), .ref (g.1 12 1), .ref (g.1 12 2), .ref (g.1 12 3), .int (nI (nP τ)), .ref (g.1 12 5), .ref (g.1 12 6), .ref (g.1 12 7), .ref (g.1 12 8), .ref (g.1 12 9), .ref (g.1 12 10), .int (nI ((nC τ) + 1)), .ref (g.1 12 12), .ref (g.1 12 13), .ref (g.1 12 14), .ref (g.1 12 15), .int (nI (nB τ)), .ref (g.1 12 17), .ref (g.1 12 18), .ref (g.1 12 19), .ref (g.1 12 20), .int (nI ((τ.1 21 0) + (cfeN τ ja jb))), .ref (g.1 12 22), .ref (g.1 12 23), .int (nI 0)])) := by rw [eM58]; exact mu_self _ _ _
            have hG60 : G pr kc e0 σ ((up2 (up2 (up2 (up2 (up2 (up2 τ.1 12 (nC τ) ja) 13 (nC τ) jb) 14 (nC τ) (cfeN τ ja jb)) 8 ja ((τ.1 8 ja) + jb)) 11 0 ((nC τ) + 1)) 21 0 ((τ.1 21 0) + (cfeN τ ja jb))), τ.2) (nI 0) o g M58 := by rw [eM58]; exact hG56.setF (hpr 11 (by decide)) (k := 21) (v := (τ.1 21 0) + (cfeN τ ja jb)) (by decide)
            have hwf2 : WS nn ((up2 (up2 (up2 (up2 (up2 (up2 τ.1 12 (nC τ) ja) 13 (nC τ) jb) 14 (nC τ) (cfeN τ ja jb)) 8 ja ((τ.1 8 ja) + jb)) 11 0 ((nC τ) + 1)) 21 0 ((τ.1 21 0) + (cfeN τ ja jb))), τ.2) := WS_nu (σ := addCap τ ja jb) (WS_cap hwf hja (by omega) (by omega) (by omega))
            refine lv_aload_n hx hb dX8_capture_170 rfl (lv_at hl 2 rfl) ?_
            refine lv_aload_n hx hb dX8_capture_171 rfl (lv_at hl 2 rfl) ?_
            refine lv_iload hx hb dX8_capture_172 (lv_at hl 0 rfl) ?_
            have hg61 := hG60.f11 (hpr 11 (by decide))
            refine m_rVi (As := [.int (nI (nC τ))]) (rest := [.ref (g.1 11 0)]) X Y hA hcx (c_m_cardBank l D kc A e0 M58 hG60 hwf2 hpr (nC τ) (show nC τ < nC τ + 1 by omega)) (cwV 1 X.1.2.2.2.2 gX8_capture_X8_cardBank rfl rfl rfl (by decide +kernel) ⟨Nat.le_of_ble_eq_true rfl, Nat.le_of_ble_eq_true rfl⟩) hg61 rfl rfl rfl hl.1 (Nat.le_of_ble_eq_true rfl) dX8_capture_174 ⟨by decide, by decide⟩ (fun H locs Y => ?_)
            refine n_top (y := nI (τ.1 5 ja / 3)) (by simp [cBk, sBk, up2]) ?_
            refine lv_aload_n hx hb dX8_capture_177 rfl (lv_at hl 2 rfl) ?_
            refine lv_iload hx hb dX8_capture_178 (lv_at hl 0 rfl) ?_
            refine m_rVi (As := [.int (nI (nC τ))]) (rest := [.int (nI (τ.1 5 ja / 3)), .ref (g.1 11 0)]) X Y hA hcx (c_m_shopBank l D kc A e0 M58 hG60 hwf2 hpr (nC τ) (show nC τ < nC τ + 1 by omega)) (cwV 1 X.1.2.2.2.2 gX8_capture_X8_shopBank rfl rfl rfl (by decide +kernel) ⟨Nat.le_of_ble_eq_true rfl, Nat.le_of_ble_eq_true rfl⟩) hg61 rfl rfl rfl hl.1 (Nat.le_of_ble_eq_true rfl) dX8_capture_180 ⟨by decide, by decide⟩ (fun H locs Y => ?_)
            refine n_top (y := nI (τ.1 6 ja % 4)) (by simp [cBk, sBk, up2]) ?_
            refine lv_iload_n hx hb dX8_capture_183 rfl (lv_at hl 4 rfl) ?_
            refine lv_aload_n hx hb dX8_capture_184 rfl (lv_at hl 2 rfl) ?_
            refine m_get (ref := "CardPortModel") (C := RX8) (T := TX8) (N := 25) (ci := 9) X Y htX8_capture_wsX801 hg61 rfl 14 (by decide) kwX8_capture_6 rfl (v := .ref (g.1 12 14)) rfl dX8_capture_185 ?_
            refine lv_iload hx hb dX8_capture_188 (lv_at hl 0 rfl) ?_
            refine g_iald X Y hG60 (hpr 12 (by decide)) (k := 14) (by decide) (j := nC τ) (show nC τ < 100 by omega) (v := cfeN τ ja jb) (by simp [up2]) dX8_capture_190 ?_
            refine n_isub hx hb (by omega) dX8_capture_191 ?_
            refine m_Vv (As := [.int (nI (τ.1 5 ja / 3)), .int (nI (τ.1 6 ja % 4)), .int (nI (jb - (cfeN τ ja jb)))]) (rest := []) X Y hA hcx (c_m_pays l D kc A e0 M58 hG60 hwf2 hpr (τ.1 5 ja / 3) (τ.1 6 ja % 4) (jb - (cfeN τ ja jb)) (div3 hw5.1) (Nat.mod_lt _ (by decide)) (by omega)) (cwV 3 X.1.2.2.2.2 gX8_capture_X8_pays rfl rfl rfl (by decide +kernel) ⟨Nat.le_of_ble_eq_true rfl, Nat.le_of_ble_eq_true rfl⟩) hg61 rfl rfl rfl hl.1 (Nat.le_of_ble_eq_true rfl) dX8_capture_192 ⟨by decide, by decide⟩ (fun M62 H locs p63 Y => ?_)
            have hG64 : G pr kc e0 σ ((up2 (up2 (up2 (up2 (up2 (up2 τ.1 12 (nC τ) ja) 13 (nC τ) jb) 14 (nC τ) (cfeN τ ja jb)) 8 ja ((τ.1 8 ja) + jb)) 11 0 ((nC τ) + 1)) 21 0 ((τ.1 21 0) + (cfeN τ ja jb))), (payN τ.2 (τ.1 5 ja / 3) (τ.1 6 ja % 4) ((jb - (cfeN τ ja jb) : Nat) : Int))) (nI 0) o g M62 := p63
            refine lv_iload hx hb dX8_capture_195 (lv_at hl 0 rfl) ?_
            refine m_iret X Y hr hlocks (by decide) (by decide) ?_ dX8_capture_197
            rw [Int.ofNat_sub hfe] at hG64
            exact MC_i (c := 0) (by (simp only [sp_capture, hva, ix_nI hla, hrb, ix_nI hlb, Bool.and_self, Bool.and_true, Bool.and_false, Bool.false_and, Bool.true_and, Bool.false_eq_true, reduceIte]; rw [if_pos hcx9]) <;> rfl) hG64
      · refine n_top (bN_f hal) ?_
        have hw5 := hwf.2.2.2.2.1 _ hja
        refine n_if_eq hx hb 46 (by omega) dX8_capture_13 (by decide) (fun _ => ?_) (fun zq => absurd zq (by decide))
        refine n_iconst hx hb 0 dX8_capture_46 (by decide) ?_
        refine lv_istore_n (lv' := [(3, .int (nI 0)), (0, .ref (g.1 11 0)), (1, .int (nI ja)), (2, .int (nI jb))]) hx hb dX8_capture_47 rfl hl (by decide) rfl (fun ls hl => ?_)
        refine lv_aload_n hx hb dX8_capture_48 rfl (lv_at hl 1 rfl) ?_
        refine lv_aload_n hx hb dX8_capture_49 rfl (lv_at hl 1 rfl) ?_
        refine lv_iload_n hx hb dX8_capture_50 rfl (lv_at hl 2 rfl) ?_
        refine m_rVi (As := [.int (nI ja)]) (rest := [.ref (g.1 11 0)]) X Y hA hcx (c_m_isPayment l D kc A e0 M hG hwf hpr (nI ja)) (cwV 1 X.1.2.2.2.2 gX8_capture_X8_isPayment rfl rfl rfl (by decide +kernel) ⟨Nat.le_of_ble_eq_true rfl, Nat.le_of_ble_eq_true rfl⟩) hg28 rfl rfl rfl hl.1 (Nat.le_of_ble_eq_true rfl) dX8_capture_51 ⟨by decide, by decide⟩ (fun H locs Y => ?_)
        refine n_top (bN_t hva) ?_
        refine n_if_ne hx hb 61 (by omega) dX8_capture_54 (by decide) (fun _ => ?_) (fun zq => absurd zq (by decide))
        refine lv_iload_n hx hb dX8_capture_61 rfl (lv_at hl 3 rfl) ?_
        refine m_rSi (As := [.int (nI jb)]) (rest := [.ref (g.1 11 0)]) X Y hA hcx (c_m_isAmount l D kc A e0 M (nI jb)) (va_cwS 1 X.1.2.2.2.2 gX8_capture_X8_isAmount rfl rfl rfl (by decide +kernel) ⟨Nat.le_of_ble_eq_true rfl, Nat.le_of_ble_eq_true rfl⟩) rfl rfl hl.1 (Nat.le_of_ble_eq_true rfl) dX8_capture_62 ⟨by decide, by decide⟩ (fun H locs Y => ?_)
        refine n_top (bN_t hrb) ?_
        refine n_if_ne hx hb 72 (by omega) dX8_capture_65 (by decide) (fun _ => ?_) (fun zq => absurd zq (by decide))
        refine lv_iload_n hx hb dX8_capture_72 rfl (lv_at hl 0 rfl) ?_
        refine n_if_eq hx hb 80 (by omega) dX8_capture_73 (by decide) (fun _ => ?_) (fun zq => absurd zq (by decide))
        refine n_iconst hx hb 3 dX8_capture_80 (by decide) ?_
        refine m_Vi (As := [.int (nI 3)]) (rest := []) X Y hA hcx (c_m_fails l D kc A e0 M hG hwf hpr 3 (by decide)) (cwV 1 X.1.2.2.2.2 gX8_capture_X8_fails rfl rfl rfl (by decide +kernel) ⟨Nat.le_of_ble_eq_true rfl, Nat.le_of_ble_eq_true rfl⟩) hg28 rfl rfl rfl hl.1 (Nat.le_of_ble_eq_true rfl) dX8_capture_81 ⟨by decide, by decide⟩ (fun r65 M66 H locs p67 Y => ?_)
        obtain ⟨hr9, hG68⟩ := p67
        refine n_top (hr9.trans (bN_t (by decide))) ?_
        refine n_if_eq hx hb 89 (by omega) dX8_capture_84 (by decide) (fun zq => absurd zq (by decide)) (fun _ => ?_)
        refine n_iconst hx hb 0 dX8_capture_87 (by decide) ?_
        refine m_iret X Y hr hlocks (by decide) (by decide) ?_ dX8_capture_88
        exact MC_i (c := 3) (by (simp only [sp_capture, hva, ix_nI hla, hrb, ix_nI hlb, Bool.and_self, Bool.and_true, Bool.and_false, Bool.false_and, Bool.true_and, Bool.false_eq_true, reduceIte]; rw [if_neg (fun zq => hal zq.1)]) <;> rfl) hG68
theorem kwX8_refund_1 : Cond.fieldLink RX8 47 "CardPortModel" "refunded" "[I" ∈ wsX8_refund := List.mem_of_getElem? (i := 1) rfl
theorem htX8_refund_wsX801 : ∀ w ∈ wsX80, w ∈ wsX8_refund := fun _ h => List.mem_cons_of_mem _ (List.mem_append_right _ h)
set_option maxHeartbeats 4000000 in
set_option maxRecDepth 100000 in
theorem c_X8_refund (l : Launch) (D : va_G) (kc : Nat → ClassId) (A : Nat → Prop) (e0 : Nat × Nat) (M : Mp) {pr : Nat → Prop} {σ τ : Sg} {th : Int32} {o : Int64} {g : Gh} {nn : Nat} (hG : G pr kc e0 σ τ th o g M) (hwf : WS nn τ) (hpr : ∀ t, t ≤ 13 → pr t) (a b : Int32) : Met l yX8_refund wsX8_refund ({ frames := 3, cells := 0, slots := 0, locals := 65 }) (mPre D kc A e0 M [.ref (g.1 11 0), .int a, .int b]) (va_Qi (MC pr kc e0 σ o g (sp_refund τ a b)) (mB D A) A) 0 0 A := by
  refine Met.ofW (cc := cX8_refund) (maxL := 3) (ret := (some .int)) (by decide) rfl ?_
  intro p e s m args below meth c s₁ B hml hv
  obtain ⟨rfl, hw, hK, hA, hcx⟩ := hv
  have X : mX p s m _ c cX8_refund 3 RX8 wsX8_refund D kc := ⟨⟨B.exec, B.bytes, hml, findClass_of_methodNamed B.named, atoms_spec (ws := wsX8_refund) B.pre⟩, hK⟩
  have hx := B.exec
  have hb := B.bytes
  have hr := B.returns
  have hlocks := B.notSynchronized
  have Y : mY D A M s s.heap [] := ⟨hw, va_S.rf⟩
  have hl := lv_entry ([.ref (g.1 11 0), .int a, .int b]) (n := 3) (Nat.le_of_ble_eq_true rfl)
  rw [lg_entry_eq]
  generalize (lg_sl ([.ref (g.1 11 0), .int a, .int b]) ++ List.replicate (3 - (lg_sl ([.ref (g.1 11 0), .int a, .int b])).length) Slot.unset).toArray = ls at hl ⊢
  have hl : lv_has ls 3 [(0, .ref (g.1 11 0)), (1, .int a), (2, .int b)] := hl
  have hwn := hwf.2.2.2.1
  have hwd := hwf.1
  cases hva : vI a (nC τ) with
  | false =>
    cases hrb : rI b 1 100000 with
    | false =>
      refine lv_aload_n hx hb dX8_refund_0 rfl (lv_at hl 0 rfl) ?_
      refine lv_aload_n hx hb dX8_refund_1 rfl (lv_at hl 0 rfl) ?_
      refine lv_iload_n hx hb dX8_refund_2 rfl (lv_at hl 1 rfl) ?_
      have hg1 := hG.f11 (hpr 11 (by decide))
      refine m_rVi (As := [.int a]) (rest := [.ref (g.1 11 0)]) X Y hA hcx (c_m_isCapture l D kc A e0 M hG hwf hpr a) (cwV 1 X.1.2.2.2.2 gX8_refund_X8_isCapture rfl rfl rfl (by decide +kernel) ⟨Nat.le_of_ble_eq_true rfl, Nat.le_of_ble_eq_true rfl⟩) hg1 rfl rfl rfl hl.1 (Nat.le_of_ble_eq_true rfl) dX8_refund_3 ⟨by decide, by decide⟩ (fun H locs Y => ?_)
      refine n_top (bN_f (by rw [hva]; decide)) ?_
      refine n_if_ne hx hb 13 (by omega) dX8_refund_6 (by decide) (fun zq => absurd zq (by decide)) (fun _ => ?_)
      refine n_iconst hx hb 1 dX8_refund_9 (by decide) ?_
      refine lv_goto (tgt := 38) hx hb dX8_refund_10 (by decide) ?_
      refine m_Vi (As := [.int (nI 1)]) (rest := []) X Y hA hcx (c_m_fails l D kc A e0 M hG hwf hpr 1 (by decide)) (cwV 1 X.1.2.2.2.2 gX8_refund_X8_fails rfl rfl rfl (by decide +kernel) ⟨Nat.le_of_ble_eq_true rfl, Nat.le_of_ble_eq_true rfl⟩) hg1 rfl rfl rfl hl.1 (Nat.le_of_ble_eq_true rfl) dX8_refund_38 ⟨by decide, by decide⟩ (fun r2 M3 H locs p4 Y => ?_)
      obtain ⟨hr9, hG5⟩ := p4
      refine n_top (hr9.trans (bN_t (by decide))) ?_
      refine n_if_eq hx hb 46 (by omega) dX8_refund_41 (by decide) (fun zq => absurd zq (by decide)) (fun _ => ?_)
      refine n_iconst hx hb 0 dX8_refund_44 (by decide) ?_
      refine m_iret X Y hr hlocks (by decide) (by decide) ?_ dX8_refund_45
      exact MC_i (c := 1) (by (simp only [sp_refund, hva, hrb, Bool.and_self, Bool.and_true, Bool.and_false, Bool.false_and, Bool.true_and, Bool.false_eq_true, reduceIte]) <;> rfl) hG5
    | true =>
      obtain ⟨jb, hab, hbb, hlb, rfl⟩ := rI_t hrb
      refine lv_aload_n hx hb dX8_refund_0 rfl (lv_at hl 0 rfl) ?_
      refine lv_aload_n hx hb dX8_refund_1 rfl (lv_at hl 0 rfl) ?_
      refine lv_iload_n hx hb dX8_refund_2 rfl (lv_at hl 1 rfl) ?_
      have hg6 := hG.f11 (hpr 11 (by decide))
      refine m_rVi (As := [.int a]) (rest := [.ref (g.1 11 0)]) X Y hA hcx (c_m_isCapture l D kc A e0 M hG hwf hpr a) (cwV 1 X.1.2.2.2.2 gX8_refund_X8_isCapture rfl rfl rfl (by decide +kernel) ⟨Nat.le_of_ble_eq_true rfl, Nat.le_of_ble_eq_true rfl⟩) hg6 rfl rfl rfl hl.1 (Nat.le_of_ble_eq_true rfl) dX8_refund_3 ⟨by decide, by decide⟩ (fun H locs Y => ?_)
      refine n_top (bN_f (by rw [hva]; decide)) ?_
      refine n_if_ne hx hb 13 (by omega) dX8_refund_6 (by decide) (fun zq => absurd zq (by decide)) (fun _ => ?_)
      refine n_iconst hx hb 1 dX8_refund_9 (by decide) ?_
      refine lv_goto (tgt := 38) hx hb dX8_refund_10 (by decide) ?_
      refine m_Vi (As := [.int (nI 1)]) (rest := []) X Y hA hcx (c_m_fails l D kc A e0 M hG hwf hpr 1 (by decide)) (cwV 1 X.1.2.2.2.2 gX8_refund_X8_fails rfl rfl rfl (by decide +kernel) ⟨Nat.le_of_ble_eq_true rfl, Nat.le_of_ble_eq_true rfl⟩) hg6 rfl rfl rfl hl.1 (Nat.le_of_ble_eq_true rfl) dX8_refund_38 ⟨by decide, by decide⟩ (fun r7 M8 H locs p9 Y => ?_)
      obtain ⟨hr9, hG10⟩ := p9
      refine n_top (hr9.trans (bN_t (by decide))) ?_
      refine n_if_eq hx hb 46 (by omega) dX8_refund_41 (by decide) (fun zq => absurd zq (by decide)) (fun _ => ?_)
      refine n_iconst hx hb 0 dX8_refund_44 (by decide) ?_
      refine m_iret X Y hr hlocks (by decide) (by decide) ?_ dX8_refund_45
      exact MC_i (c := 1) (by (simp only [sp_refund, hva, hrb, ix_nI hlb, Bool.and_self, Bool.and_true, Bool.and_false, Bool.false_and, Bool.true_and, Bool.false_eq_true, reduceIte]) <;> rfl) hG10
  | true =>
    obtain ⟨ja, hja, hla, rfl⟩ := vI_t hva
    cases hrb : rI b 1 100000 with
    | false =>
      refine lv_aload_n hx hb dX8_refund_0 rfl (lv_at hl 0 rfl) ?_
      refine lv_aload_n hx hb dX8_refund_1 rfl (lv_at hl 0 rfl) ?_
      refine lv_iload_n hx hb dX8_refund_2 rfl (lv_at hl 1 rfl) ?_
      have hg11 := hG.f11 (hpr 11 (by decide))
      refine m_rVi (As := [.int (nI ja)]) (rest := [.ref (g.1 11 0)]) X Y hA hcx (c_m_isCapture l D kc A e0 M hG hwf hpr (nI ja)) (cwV 1 X.1.2.2.2.2 gX8_refund_X8_isCapture rfl rfl rfl (by decide +kernel) ⟨Nat.le_of_ble_eq_true rfl, Nat.le_of_ble_eq_true rfl⟩) hg11 rfl rfl rfl hl.1 (Nat.le_of_ble_eq_true rfl) dX8_refund_3 ⟨by decide, by decide⟩ (fun H locs Y => ?_)
      refine n_top (bN_t hva) ?_
      refine n_if_ne hx hb 13 (by omega) dX8_refund_6 (by decide) (fun _ => ?_) (fun zq => absurd zq (by decide))
      refine lv_iload_n hx hb dX8_refund_13 rfl (lv_at hl 2 rfl) ?_
      refine m_rSi (As := [.int b]) (rest := [.ref (g.1 11 0)]) X Y hA hcx (c_m_isAmount l D kc A e0 M b) (va_cwS 1 X.1.2.2.2.2 gX8_refund_X8_isAmount rfl rfl rfl (by decide +kernel) ⟨Nat.le_of_ble_eq_true rfl, Nat.le_of_ble_eq_true rfl⟩) rfl rfl hl.1 (Nat.le_of_ble_eq_true rfl) dX8_refund_14 ⟨by decide, by decide⟩ (fun H locs Y => ?_)
      refine n_top (bN_f (by rw [hrb]; decide)) ?_
      refine n_if_ne hx hb 24 (by omega) dX8_refund_17 (by decide) (fun zq => absurd zq (by decide)) (fun _ => ?_)
      refine n_iconst hx hb 2 dX8_refund_20 (by decide) ?_
      refine lv_goto (tgt := 38) hx hb dX8_refund_21 (by decide) ?_
      refine m_Vi (As := [.int (nI 2)]) (rest := []) X Y hA hcx (c_m_fails l D kc A e0 M hG hwf hpr 2 (by decide)) (cwV 1 X.1.2.2.2.2 gX8_refund_X8_fails rfl rfl rfl (by decide +kernel) ⟨Nat.le_of_ble_eq_true rfl, Nat.le_of_ble_eq_true rfl⟩) hg11 rfl rfl rfl hl.1 (Nat.le_of_ble_eq_true rfl) dX8_refund_38 ⟨by decide, by decide⟩ (fun r12 M13 H locs p14 Y => ?_)
      obtain ⟨hr9, hG15⟩ := p14
      refine n_top (hr9.trans (bN_t (by decide))) ?_
      refine n_if_eq hx hb 46 (by omega) dX8_refund_41 (by decide) (fun zq => absurd zq (by decide)) (fun _ => ?_)
      refine n_iconst hx hb 0 dX8_refund_44 (by decide) ?_
      refine m_iret X Y hr hlocks (by decide) (by decide) ?_ dX8_refund_45
      exact MC_i (c := 2) (by (simp only [sp_refund, hva, ix_nI hla, hrb, Bool.and_self, Bool.and_true, Bool.and_false, Bool.false_and, Bool.true_and, Bool.false_eq_true, reduceIte]) <;> rfl) hG15
    | true =>
      obtain ⟨jb, hab, hbb, hlb, rfl⟩ := rI_t hrb
      refine lv_aload_n hx hb dX8_refund_0 rfl (lv_at hl 0 rfl) ?_
      refine lv_aload_n hx hb dX8_refund_1 rfl (lv_at hl 0 rfl) ?_
      refine lv_iload_n hx hb dX8_refund_2 rfl (lv_at hl 1 rfl) ?_
      have hg16 := hG.f11 (hpr 11 (by decide))
      refine m_rVi (As := [.int (nI ja)]) (rest := [.ref (g.1 11 0)]) X Y hA hcx (c_m_isCapture l D kc A e0 M hG hwf hpr (nI ja)) (cwV 1 X.1.2.2.2.2 gX8_refund_X8_isCapture rfl rfl rfl (by decide +kernel) ⟨Nat.le_of_ble_eq_true rfl, Nat.le_of_ble_eq_true rfl⟩) hg16 rfl rfl rfl hl.1 (Nat.le_of_ble_eq_true rfl) dX8_refund_3 ⟨by decide, by decide⟩ (fun H locs Y => ?_)
      refine n_top (bN_t hva) ?_
      refine n_if_ne hx hb 13 (by omega) dX8_refund_6 (by decide) (fun _ => ?_) (fun zq => absurd zq (by decide))
      refine lv_iload_n hx hb dX8_refund_13 rfl (lv_at hl 2 rfl) ?_
      refine m_rSi (As := [.int (nI jb)]) (rest := [.ref (g.1 11 0)]) X Y hA hcx (c_m_isAmount l D kc A e0 M (nI jb)) (va_cwS 1 X.1.2.2.2.2 gX8_refund_X8_isAmount rfl rfl rfl (by decide +kernel) ⟨Nat.le_of_ble_eq_true rfl, Nat.le_of_ble_eq_true rfl⟩) rfl rfl hl.1 (Nat.le_of_ble_eq_true rfl) dX8_refund_14 ⟨by decide, by decide⟩ (fun H locs Y => ?_)
      refine n_top (bN_t hrb) ?_
      refine n_if_ne hx hb 24 (by omega) dX8_refund_17 (by decide) (fun _ => ?_) (fun zq => absurd zq (by decide))
      refine lv_aload_n hx hb dX8_refund_24 rfl (lv_at hl 0 rfl) ?_
      refine lv_iload_n hx hb dX8_refund_25 rfl (lv_at hl 1 rfl) ?_
      refine lv_iload_n hx hb dX8_refund_26 rfl (lv_at hl 2 rfl) ?_
      have hw1 := hwf.2.2.2.2.2.2.1 _ hja
      refine m_rVi (As := [.int (nI ja), .int (nI jb)]) (rest := [.ref (g.1 11 0)]) X Y hA hcx (c_m_canGive l D kc A e0 M hG hwf hpr ja (nI jb) hja) (cwV 2 X.1.2.2.2.2 gX8_refund_X8_canGive rfl rfl rfl (by decide +kernel) ⟨Nat.le_of_ble_eq_true rfl, Nat.le_of_ble_eq_true rfl⟩) hg16 rfl rfl rfl hl.1 (Nat.le_of_ble_eq_true rfl) dX8_refund_27 ⟨by decide, by decide⟩ (fun H locs Y => ?_)
      by_cases hcg : (nI jb) ≤ nI (τ.1 13 ja - gb τ ja)
      · refine n_top (bN_t hcg) ?_
        rw [nI_le2 (by omega) (by omega)] at hcg
        refine n_if_eq hx hb 37 (by omega) dX8_refund_30 (by decide) (fun zq => absurd zq (by decide)) (fun _ => ?_)
        refine n_iconst hx hb 0 dX8_refund_33 (by decide) ?_
        refine lv_goto (tgt := 38) hx hb dX8_refund_34 (by decide) ?_
        refine m_Vi (As := [.int (nI 0)]) (rest := []) X Y hA hcx (c_m_fails l D kc A e0 M hG hwf hpr 0 (by decide)) (cwV 1 X.1.2.2.2.2 gX8_refund_X8_fails rfl rfl rfl (by decide +kernel) ⟨Nat.le_of_ble_eq_true rfl, Nat.le_of_ble_eq_true rfl⟩) hg16 rfl rfl rfl hl.1 (Nat.le_of_ble_eq_true rfl) dX8_refund_38 ⟨by decide, by decide⟩ (fun r17 M18 H locs p19 Y => ?_)
        obtain ⟨hr9, hG20⟩ := p19
        refine n_top (hr9.trans (bN_f (by decide))) ?_
        refine n_if_eq hx hb 46 (by omega) dX8_refund_41 (by decide) (fun _ => ?_) (fun zq => absurd zq (by decide))
        have hcx9 : jb + gb τ ja ≤ τ.1 13 ja := by omega
        have hw5 := hwf.2.2.2.2.1 _ hw1.1
        refine lv_aload_n hx hb dX8_refund_46 rfl (lv_at hl 0 rfl) ?_
        have hg21 := hG20.f11 (hpr 11 (by decide))
        refine m_get (ref := "CardPortModel") (C := RX8) (T := TX8) (N := 25) (ci := 9) X Y htX8_refund_wsX801 hg21 rfl 15 (by decide) kwX8_refund_1 rfl (v := .ref (g.1 12 15)) rfl dX8_refund_47 ?_
        refine lv_iload_n hx hb dX8_refund_50 rfl (lv_at hl 1 rfl) ?_
        refine lv_dup2_11 hx hb dX8_refund_51 rfl rfl ?_
        refine g_iald X Y hG20 (hpr 12 (by decide)) (k := 15) (by decide) (j := ja) (show ja < 100 by omega) (v := τ.1 15 ja) rfl dX8_refund_52 ?_
        refine lv_iload_n hx hb dX8_refund_53 rfl (lv_at hl 2 rfl) ?_
        refine n_iadd hx hb dX8_refund_54 ?_
        refine g_iast X Y hG20 (hpr 12 (by decide)) (k := 15) (by decide) (j := ja) (v := (τ.1 15 ja) + jb) (show ja < 100 by omega) dX8_refund_55 (fun M22 H locs hG23 Y => ?_)
        have hwf2 : WS nn ((up2 τ.1 15 ja ((τ.1 15 ja) + jb)), τ.2) := WS_nu (σ := addRef τ ja jb) (WS_ref hwf hja hcx9)
        refine lv_aload_n hx hb dX8_refund_56 rfl (lv_at hl 0 rfl) ?_
        refine lv_aload_n hx hb dX8_refund_57 rfl (lv_at hl 0 rfl) ?_
        refine lv_iload_n hx hb dX8_refund_58 rfl (lv_at hl 1 rfl) ?_
        have hg24 := hG23.f11 (hpr 11 (by decide))
        refine m_rVi (As := [.int (nI ja)]) (rest := [.ref (g.1 11 0)]) X Y hA hcx (c_m_shopBank l D kc A e0 M22 hG23 hwf2 hpr (ja) hja) (cwV 1 X.1.2.2.2.2 gX8_refund_X8_shopBank rfl rfl rfl (by decide +kernel) ⟨Nat.le_of_ble_eq_true rfl, Nat.le_of_ble_eq_true rfl⟩) hg24 rfl rfl rfl hl.1 (Nat.le_of_ble_eq_true rfl) dX8_refund_59 ⟨by decide, by decide⟩ (fun H locs Y => ?_)
        refine lv_aload_n hx hb dX8_refund_62 rfl (lv_at hl 0 rfl) ?_
        refine lv_iload_n hx hb dX8_refund_63 rfl (lv_at hl 1 rfl) ?_
        refine m_rVi (As := [.int (nI ja)]) (rest := [.int (nI (sBk τ (ja))), .ref (g.1 11 0)]) X Y hA hcx (c_m_cardBank l D kc A e0 M22 hG23 hwf2 hpr (ja) hja) (cwV 1 X.1.2.2.2.2 gX8_refund_X8_cardBank rfl rfl rfl (by decide +kernel) ⟨Nat.le_of_ble_eq_true rfl, Nat.le_of_ble_eq_true rfl⟩) hg24 rfl rfl rfl hl.1 (Nat.le_of_ble_eq_true rfl) dX8_refund_64 ⟨by decide, by decide⟩ (fun H locs Y => ?_)
        refine lv_iload_n hx hb dX8_refund_67 rfl (lv_at hl 2 rfl) ?_
        refine m_Vv (As := [.int (nI (sBk τ (ja))), .int (nI (cBk τ (ja))), .int (nI jb)]) (rest := []) X Y hA hcx (c_m_pays l D kc A e0 M22 hG23 hwf2 hpr (sBk τ (ja)) (cBk τ (ja)) (jb) (Nat.mod_lt _ (by decide)) (div3 hw5.1) (by omega)) (cwV 3 X.1.2.2.2.2 gX8_refund_X8_pays rfl rfl rfl (by decide +kernel) ⟨Nat.le_of_ble_eq_true rfl, Nat.le_of_ble_eq_true rfl⟩) hg24 rfl rfl rfl hl.1 (Nat.le_of_ble_eq_true rfl) dX8_refund_68 ⟨by decide, by decide⟩ (fun M25 H locs p26 Y => ?_)
        have hG27 : G pr kc e0 σ ((up2 τ.1 15 ja ((τ.1 15 ja) + jb)), (payN τ.2 (sBk τ (ja)) (cBk τ (ja)) ((jb : Nat) : Int))) (nI 0) o g M25 := p26
        have hwf3 : WS nn ((up2 τ.1 15 ja ((τ.1 15 ja) + jb)), (payN τ.2 (sBk τ (ja)) (cBk τ (ja)) ((jb : Nat) : Int))) := WS_ref hwf hja hcx9
        refine lv_aload_n hx hb dX8_refund_71 rfl (lv_at hl 0 rfl) ?_
        refine lv_iload_n hx hb dX8_refund_72 rfl (lv_at hl 1 rfl) ?_
        have hg28 := hG27.f11 (hpr 11 (by decide))
        refine m_rVi (As := [.int (nI ja)]) (rest := []) X Y hA hcx (c_m_gb l D kc A e0 M25 hG27 hwf3 hpr ja hja) (cwV 1 X.1.2.2.2.2 gX8_refund_X8_givenBack rfl rfl rfl (by decide +kernel) ⟨Nat.le_of_ble_eq_true rfl, Nat.le_of_ble_eq_true rfl⟩) hg28 rfl rfl rfl hl.1 (Nat.le_of_ble_eq_true rfl) dX8_refund_73 ⟨by decide, by decide⟩ (fun H locs Y => ?_)
        refine m_iret X Y hr hlocks (by decide) (by decide) ?_ dX8_refund_76
        exact MC_i (c := 0) (by (simp only [sp_refund, hva, ix_nI hla, hrb, ix_nI hlb, Bool.and_self, Bool.and_true, Bool.and_false, Bool.false_and, Bool.true_and, Bool.false_eq_true, reduceIte]; rw [if_pos hcx9]) <;> rfl) hG27
      · refine n_top (bN_f hcg) ?_
        rw [nI_le2 (by omega) (by omega)] at hcg
        refine n_if_eq hx hb 37 (by omega) dX8_refund_30 (by decide) (fun _ => ?_) (fun zq => absurd zq (by decide))
        refine n_iconst hx hb 3 dX8_refund_37 (by decide) ?_
        refine m_Vi (As := [.int (nI 3)]) (rest := []) X Y hA hcx (c_m_fails l D kc A e0 M hG hwf hpr 3 (by decide)) (cwV 1 X.1.2.2.2.2 gX8_refund_X8_fails rfl rfl rfl (by decide +kernel) ⟨Nat.le_of_ble_eq_true rfl, Nat.le_of_ble_eq_true rfl⟩) hg16 rfl rfl rfl hl.1 (Nat.le_of_ble_eq_true rfl) dX8_refund_38 ⟨by decide, by decide⟩ (fun r29 M30 H locs p31 Y => ?_)
        obtain ⟨hr9, hG32⟩ := p31
        refine n_top (hr9.trans (bN_t (by decide))) ?_
        refine n_if_eq hx hb 46 (by omega) dX8_refund_41 (by decide) (fun zq => absurd zq (by decide)) (fun _ => ?_)
        refine n_iconst hx hb 0 dX8_refund_44 (by decide) ?_
        refine m_iret X Y hr hlocks (by decide) (by decide) ?_ dX8_refund_45
        exact MC_i (c := 3) (by (simp only [sp_refund, hva, ix_nI hla, hrb, ix_nI hlb, Bool.and_self, Bool.and_true, Bool.and_false, Bool.false_and, Bool.true_and, Bool.false_eq_true, reduceIte]; rw [if_neg (by omega)]) <;> rfl) hG32
theorem kwX8_dispute_1 : Cond.fieldLink RX8 136 "CardPortModel" "chargebacks" "I" ∈ wsX8_dispute := List.mem_of_getElem? (i := 1) rfl
theorem htX8_dispute_wsX801 : ∀ w ∈ wsX80, w ∈ wsX8_dispute := fun _ h => List.mem_cons_of_mem _ (List.mem_append_right _ h)
theorem kwX8_dispute_2 : Cond.fieldLink RX8 50 "CardPortModel" "state" "[I" ∈ wsX8_dispute := List.mem_of_getElem? (i := 2) rfl
theorem kwX8_dispute_3 : Cond.fieldLink RX8 53 "CardPortModel" "capture" "[I" ∈ wsX8_dispute := List.mem_of_getElem? (i := 3) rfl
theorem kwX8_dispute_4 : Cond.fieldLink RX8 56 "CardPortModel" "disputed" "[I" ∈ wsX8_dispute := List.mem_of_getElem? (i := 4) rfl
theorem kwX8_dispute_5 : Cond.fieldLink RX8 59 "CardPortModel" "until" "[I" ∈ wsX8_dispute := List.mem_of_getElem? (i := 5) rfl
theorem kwX8_dispute_6 : Cond.fieldLink RX8 114 "CardPortModel" "day" "I" ∈ wsX8_dispute := List.mem_of_getElem? (i := 6) rfl
set_option maxHeartbeats 4000000 in
set_option maxRecDepth 100000 in
theorem c_X8_dispute (l : Launch) (D : va_G) (kc : Nat → ClassId) (A : Nat → Prop) (e0 : Nat × Nat) (M : Mp) {pr : Nat → Prop} {σ τ : Sg} {th : Int32} {o : Int64} {g : Gh} {nn : Nat} (hG : G pr kc e0 σ τ th o g M) (hwf : WS nn τ) (hpr : ∀ t, t ≤ 13 → pr t) (a b : Int32) : Met l yX8_dispute wsX8_dispute ({ frames := 3, cells := 0, slots := 0, locals := 65 }) (mPre D kc A e0 M [.ref (g.1 11 0), .int a, .int b]) (va_Qi (MC pr kc e0 σ o g (sp_dispute τ a b)) (mB D A) A) 0 0 A := by
  refine Met.ofW (cc := cX8_dispute) (maxL := 5) (ret := (some .int)) (by decide) rfl ?_
  intro p e s m args below meth c s₁ B hml hv
  obtain ⟨rfl, hw, hK, hA, hcx⟩ := hv
  have X : mX p s m _ c cX8_dispute 5 RX8 wsX8_dispute D kc := ⟨⟨B.exec, B.bytes, hml, findClass_of_methodNamed B.named, atoms_spec (ws := wsX8_dispute) B.pre⟩, hK⟩
  have hx := B.exec
  have hb := B.bytes
  have hr := B.returns
  have hlocks := B.notSynchronized
  have Y : mY D A M s s.heap [] := ⟨hw, va_S.rf⟩
  have hl := lv_entry ([.ref (g.1 11 0), .int a, .int b]) (n := 5) (Nat.le_of_ble_eq_true rfl)
  rw [lg_entry_eq]
  generalize (lg_sl ([.ref (g.1 11 0), .int a, .int b]) ++ List.replicate (5 - (lg_sl ([.ref (g.1 11 0), .int a, .int b])).length) Slot.unset).toArray = ls at hl ⊢
  have hl : lv_has ls 5 [(0, .ref (g.1 11 0)), (1, .int a), (2, .int b)] := hl
  have hwn := hwf.2.2.2.1
  have hwd := hwf.1
  cases hva : vI a (nC τ) with
  | false =>
    cases hrb : rI b 1 100000 with
    | false =>
      refine lv_aload_n hx hb dX8_dispute_0 rfl (lv_at hl 0 rfl) ?_
      refine lv_iload_n hx hb dX8_dispute_1 rfl (lv_at hl 1 rfl) ?_
      refine lv_iload_n hx hb dX8_dispute_2 rfl (lv_at hl 2 rfl) ?_
      have hg1 := hG.f11 (hpr 11 (by decide))
      refine m_rVi (As := [.int a, .int b]) (rest := []) X Y hA hcx (c_m_canGive_n l D kc A e0 M hG hwf hpr a b hva) (cwV 2 X.1.2.2.2.2 gX8_dispute_X8_canGive rfl rfl rfl (by decide +kernel) ⟨Nat.le_of_ble_eq_true rfl, Nat.le_of_ble_eq_true rfl⟩) hg1 rfl rfl rfl hl.1 (Nat.le_of_ble_eq_true rfl) dX8_dispute_3 ⟨by decide, by decide⟩ (fun H locs Y => ?_)
      refine n_if_eq hx hb 22 (by omega) dX8_dispute_6 (by decide) (fun _ => ?_) (fun zq => absurd zq (by decide))
      refine n_iconst hx hb 0 dX8_dispute_22 (by decide) ?_
      refine lv_istore_n (lv' := [(3, .int (nI 0)), (0, .ref (g.1 11 0)), (1, .int a), (2, .int b)]) hx hb dX8_dispute_23 rfl hl (by decide) rfl (fun ls hl => ?_)
      refine lv_aload_n hx hb dX8_dispute_24 rfl (lv_at hl 1 rfl) ?_
      refine lv_aload_n hx hb dX8_dispute_25 rfl (lv_at hl 1 rfl) ?_
      refine lv_iload_n hx hb dX8_dispute_26 rfl (lv_at hl 2 rfl) ?_
      refine m_rVi (As := [.int a]) (rest := [.ref (g.1 11 0)]) X Y hA hcx (c_m_isCapture l D kc A e0 M hG hwf hpr a) (cwV 1 X.1.2.2.2.2 gX8_dispute_X8_isCapture rfl rfl rfl (by decide +kernel) ⟨Nat.le_of_ble_eq_true rfl, Nat.le_of_ble_eq_true rfl⟩) hg1 rfl rfl rfl hl.1 (Nat.le_of_ble_eq_true rfl) dX8_dispute_27 ⟨by decide, by decide⟩ (fun H locs Y => ?_)
      refine n_top (bN_f (by rw [hva]; decide)) ?_
      refine n_if_ne hx hb 37 (by omega) dX8_dispute_30 (by decide) (fun zq => absurd zq (by decide)) (fun _ => ?_)
      refine n_iconst hx hb 1 dX8_dispute_33 (by decide) ?_
      refine lv_goto (tgt := 57) hx hb dX8_dispute_34 (by decide) ?_
      refine m_Vi (As := [.int (nI 1)]) (rest := []) X Y hA hcx (c_m_fails l D kc A e0 M hG hwf hpr 1 (by decide)) (cwV 1 X.1.2.2.2.2 gX8_dispute_X8_fails rfl rfl rfl (by decide +kernel) ⟨Nat.le_of_ble_eq_true rfl, Nat.le_of_ble_eq_true rfl⟩) hg1 rfl rfl rfl hl.1 (Nat.le_of_ble_eq_true rfl) dX8_dispute_57 ⟨by decide, by decide⟩ (fun r2 M3 H locs p4 Y => ?_)
      obtain ⟨hr9, hG5⟩ := p4
      refine n_top (hr9.trans (bN_t (by decide))) ?_
      refine n_if_eq hx hb 65 (by omega) dX8_dispute_60 (by decide) (fun zq => absurd zq (by decide)) (fun _ => ?_)
      refine n_iconst hx hb 0 dX8_dispute_63 (by decide) ?_
      refine m_iret X Y hr hlocks (by decide) (by decide) ?_ dX8_dispute_64
      exact MC_i (c := 1) (by (simp only [sp_dispute, hva, hrb, Bool.and_self, Bool.and_true, Bool.and_false, Bool.false_and, Bool.true_and, Bool.false_eq_true, reduceIte]) <;> rfl) hG5
    | true =>
      obtain ⟨jb, hab, hbb, hlb, rfl⟩ := rI_t hrb
      refine lv_aload_n hx hb dX8_dispute_0 rfl (lv_at hl 0 rfl) ?_
      refine lv_iload_n hx hb dX8_dispute_1 rfl (lv_at hl 1 rfl) ?_
      refine lv_iload_n hx hb dX8_dispute_2 rfl (lv_at hl 2 rfl) ?_
      have hg6 := hG.f11 (hpr 11 (by decide))
      refine m_rVi (As := [.int a, .int (nI jb)]) (rest := []) X Y hA hcx (c_m_canGive_n l D kc A e0 M hG hwf hpr a (nI jb) hva) (cwV 2 X.1.2.2.2.2 gX8_dispute_X8_canGive rfl rfl rfl (by decide +kernel) ⟨Nat.le_of_ble_eq_true rfl, Nat.le_of_ble_eq_true rfl⟩) hg6 rfl rfl rfl hl.1 (Nat.le_of_ble_eq_true rfl) dX8_dispute_3 ⟨by decide, by decide⟩ (fun H locs Y => ?_)
      refine n_if_eq hx hb 22 (by omega) dX8_dispute_6 (by decide) (fun _ => ?_) (fun zq => absurd zq (by decide))
      refine n_iconst hx hb 0 dX8_dispute_22 (by decide) ?_
      refine lv_istore_n (lv' := [(3, .int (nI 0)), (0, .ref (g.1 11 0)), (1, .int a), (2, .int (nI jb))]) hx hb dX8_dispute_23 rfl hl (by decide) rfl (fun ls hl => ?_)
      refine lv_aload_n hx hb dX8_dispute_24 rfl (lv_at hl 1 rfl) ?_
      refine lv_aload_n hx hb dX8_dispute_25 rfl (lv_at hl 1 rfl) ?_
      refine lv_iload_n hx hb dX8_dispute_26 rfl (lv_at hl 2 rfl) ?_
      refine m_rVi (As := [.int a]) (rest := [.ref (g.1 11 0)]) X Y hA hcx (c_m_isCapture l D kc A e0 M hG hwf hpr a) (cwV 1 X.1.2.2.2.2 gX8_dispute_X8_isCapture rfl rfl rfl (by decide +kernel) ⟨Nat.le_of_ble_eq_true rfl, Nat.le_of_ble_eq_true rfl⟩) hg6 rfl rfl rfl hl.1 (Nat.le_of_ble_eq_true rfl) dX8_dispute_27 ⟨by decide, by decide⟩ (fun H locs Y => ?_)
      refine n_top (bN_f (by rw [hva]; decide)) ?_
      refine n_if_ne hx hb 37 (by omega) dX8_dispute_30 (by decide) (fun zq => absurd zq (by decide)) (fun _ => ?_)
      refine n_iconst hx hb 1 dX8_dispute_33 (by decide) ?_
      refine lv_goto (tgt := 57) hx hb dX8_dispute_34 (by decide) ?_
      refine m_Vi (As := [.int (nI 1)]) (rest := []) X Y hA hcx (c_m_fails l D kc A e0 M hG hwf hpr 1 (by decide)) (cwV 1 X.1.2.2.2.2 gX8_dispute_X8_fails rfl rfl rfl (by decide +kernel) ⟨Nat.le_of_ble_eq_true rfl, Nat.le_of_ble_eq_true rfl⟩) hg6 rfl rfl rfl hl.1 (Nat.le_of_ble_eq_true rfl) dX8_dispute_57 ⟨by decide, by decide⟩ (fun r7 M8 H locs p9 Y => ?_)
      obtain ⟨hr9, hG10⟩ := p9
      refine n_top (hr9.trans (bN_t (by decide))) ?_
      refine n_if_eq hx hb 65 (by omega) dX8_dispute_60 (by decide) (fun zq => absurd zq (by decide)) (fun _ => ?_)
      refine n_iconst hx hb 0 dX8_dispute_63 (by decide) ?_
      refine m_iret X Y hr hlocks (by decide) (by decide) ?_ dX8_dispute_64
      exact MC_i (c := 1) (by (simp only [sp_dispute, hva, hrb, ix_nI hlb, Bool.and_self, Bool.and_true, Bool.and_false, Bool.false_and, Bool.true_and, Bool.false_eq_true, reduceIte]) <;> rfl) hG10
  | true =>
    obtain ⟨ja, hja, hla, rfl⟩ := vI_t hva
    cases hrb : rI b 1 100000 with
    | false =>
      refine lv_aload_n hx hb dX8_dispute_0 rfl (lv_at hl 0 rfl) ?_
      refine lv_iload_n hx hb dX8_dispute_1 rfl (lv_at hl 1 rfl) ?_
      refine lv_iload_n hx hb dX8_dispute_2 rfl (lv_at hl 2 rfl) ?_
      have hw1 := hwf.2.2.2.2.2.2.1 _ hja
      have hg11 := hG.f11 (hpr 11 (by decide))
      refine m_rVi (As := [.int (nI ja), .int b]) (rest := []) X Y hA hcx (c_m_canGive l D kc A e0 M hG hwf hpr ja b hja) (cwV 2 X.1.2.2.2.2 gX8_dispute_X8_canGive rfl rfl rfl (by decide +kernel) ⟨Nat.le_of_ble_eq_true rfl, Nat.le_of_ble_eq_true rfl⟩) hg11 rfl rfl rfl hl.1 (Nat.le_of_ble_eq_true rfl) dX8_dispute_3 ⟨by decide, by decide⟩ (fun H locs Y => ?_)
      by_cases hcg : b ≤ nI (τ.1 13 ja - gb τ ja)
      · refine n_top (bN_t hcg) ?_
        refine n_if_eq hx hb 22 (by omega) dX8_dispute_6 (by decide) (fun zq => absurd zq (by decide)) (fun _ => ?_)
        refine lv_aload_n hx hb dX8_dispute_9 rfl (lv_at hl 0 rfl) ?_
        refine m_get (ref := "CardPortModel") (C := RX8) (T := TX8) (N := 25) (ci := 9) X Y htX8_dispute_wsX801 hg11 rfl 16 (by decide) kwX8_dispute_1 rfl (v := .int (nI (nB τ))) rfl dX8_dispute_10 ?_
        refine n_bipush hx hb 60 dX8_dispute_13 (by decide) ?_
        refine n_icmp_ge hx hb 22 (by omega) (by omega) dX8_dispute_15 (by decide) (fun c15 => ?_) (fun c15 => ?_)
        · refine n_iconst hx hb 0 dX8_dispute_22 (by decide) ?_
          refine lv_istore_n (lv' := [(3, .int (nI 0)), (0, .ref (g.1 11 0)), (1, .int (nI ja)), (2, .int b)]) hx hb dX8_dispute_23 rfl hl (by decide) rfl (fun ls hl => ?_)
          refine lv_aload_n hx hb dX8_dispute_24 rfl (lv_at hl 1 rfl) ?_
          refine lv_aload_n hx hb dX8_dispute_25 rfl (lv_at hl 1 rfl) ?_
          refine lv_iload_n hx hb dX8_dispute_26 rfl (lv_at hl 2 rfl) ?_
          refine m_rVi (As := [.int (nI ja)]) (rest := [.ref (g.1 11 0)]) X Y hA hcx (c_m_isCapture l D kc A e0 M hG hwf hpr (nI ja)) (cwV 1 X.1.2.2.2.2 gX8_dispute_X8_isCapture rfl rfl rfl (by decide +kernel) ⟨Nat.le_of_ble_eq_true rfl, Nat.le_of_ble_eq_true rfl⟩) hg11 rfl rfl rfl hl.1 (Nat.le_of_ble_eq_true rfl) dX8_dispute_27 ⟨by decide, by decide⟩ (fun H locs Y => ?_)
          refine n_top (bN_t hva) ?_
          refine n_if_ne hx hb 37 (by omega) dX8_dispute_30 (by decide) (fun _ => ?_) (fun zq => absurd zq (by decide))
          refine lv_iload_n hx hb dX8_dispute_37 rfl (lv_at hl 3 rfl) ?_
          refine m_rSi (As := [.int b]) (rest := [.ref (g.1 11 0)]) X Y hA hcx (c_m_isAmount l D kc A e0 M b) (va_cwS 1 X.1.2.2.2.2 gX8_dispute_X8_isAmount rfl rfl rfl (by decide +kernel) ⟨Nat.le_of_ble_eq_true rfl, Nat.le_of_ble_eq_true rfl⟩) rfl rfl hl.1 (Nat.le_of_ble_eq_true rfl) dX8_dispute_38 ⟨by decide, by decide⟩ (fun H locs Y => ?_)
          refine n_top (bN_f (by rw [hrb]; decide)) ?_
          refine n_if_ne hx hb 48 (by omega) dX8_dispute_41 (by decide) (fun zq => absurd zq (by decide)) (fun _ => ?_)
          refine n_iconst hx hb 2 dX8_dispute_44 (by decide) ?_
          refine lv_goto (tgt := 57) hx hb dX8_dispute_45 (by decide) ?_
          refine m_Vi (As := [.int (nI 2)]) (rest := []) X Y hA hcx (c_m_fails l D kc A e0 M hG hwf hpr 2 (by decide)) (cwV 1 X.1.2.2.2.2 gX8_dispute_X8_fails rfl rfl rfl (by decide +kernel) ⟨Nat.le_of_ble_eq_true rfl, Nat.le_of_ble_eq_true rfl⟩) hg11 rfl rfl rfl hl.1 (Nat.le_of_ble_eq_true rfl) dX8_dispute_57 ⟨by decide, by decide⟩ (fun r12 M13 H locs p14 Y => ?_)
          obtain ⟨hr9, hG15⟩ := p14
          refine n_top (hr9.trans (bN_t (by decide))) ?_
          refine n_if_eq hx hb 65 (by omega) dX8_dispute_60 (by decide) (fun zq => absurd zq (by decide)) (fun _ => ?_)
          refine n_iconst hx hb 0 dX8_dispute_63 (by decide) ?_
          refine m_iret X Y hr hlocks (by decide) (by decide) ?_ dX8_dispute_64
          exact MC_i (c := 2) (by (simp only [sp_dispute, hva, ix_nI hla, hrb, Bool.and_self, Bool.and_true, Bool.and_false, Bool.false_and, Bool.true_and, Bool.false_eq_true, reduceIte]) <;> rfl) hG15
        · refine n_iconst hx hb 1 dX8_dispute_18 (by decide) ?_
          refine lv_goto (tgt := 23) hx hb dX8_dispute_19 (by decide) ?_
          refine lv_istore_n (lv' := [(3, .int (nI 1)), (0, .ref (g.1 11 0)), (1, .int (nI ja)), (2, .int b)]) hx hb dX8_dispute_23 rfl hl (by decide) rfl (fun ls hl => ?_)
          refine lv_aload_n hx hb dX8_dispute_24 rfl (lv_at hl 1 rfl) ?_
          refine lv_aload_n hx hb dX8_dispute_25 rfl (lv_at hl 1 rfl) ?_
          refine lv_iload_n hx hb dX8_dispute_26 rfl (lv_at hl 2 rfl) ?_
          refine m_rVi (As := [.int (nI ja)]) (rest := [.ref (g.1 11 0)]) X Y hA hcx (c_m_isCapture l D kc A e0 M hG hwf hpr (nI ja)) (cwV 1 X.1.2.2.2.2 gX8_dispute_X8_isCapture rfl rfl rfl (by decide +kernel) ⟨Nat.le_of_ble_eq_true rfl, Nat.le_of_ble_eq_true rfl⟩) hg11 rfl rfl rfl hl.1 (Nat.le_of_ble_eq_true rfl) dX8_dispute_27 ⟨by decide, by decide⟩ (fun H locs Y => ?_)
          refine n_top (bN_t hva) ?_
          refine n_if_ne hx hb 37 (by omega) dX8_dispute_30 (by decide) (fun _ => ?_) (fun zq => absurd zq (by decide))
          refine lv_iload_n hx hb dX8_dispute_37 rfl (lv_at hl 3 rfl) ?_
          refine m_rSi (As := [.int b]) (rest := [.ref (g.1 11 0)]) X Y hA hcx (c_m_isAmount l D kc A e0 M b) (va_cwS 1 X.1.2.2.2.2 gX8_dispute_X8_isAmount rfl rfl rfl (by decide +kernel) ⟨Nat.le_of_ble_eq_true rfl, Nat.le_of_ble_eq_true rfl⟩) rfl rfl hl.1 (Nat.le_of_ble_eq_true rfl) dX8_dispute_38 ⟨by decide, by decide⟩ (fun H locs Y => ?_)
          refine n_top (bN_f (by rw [hrb]; decide)) ?_
          refine n_if_ne hx hb 48 (by omega) dX8_dispute_41 (by decide) (fun zq => absurd zq (by decide)) (fun _ => ?_)
          refine n_iconst hx hb 2 dX8_dispute_44 (by decide) ?_
          refine lv_goto (tgt := 57) hx hb dX8_dispute_45 (by decide) ?_
          refine m_Vi (As := [.int (nI 2)]) (rest := []) X Y hA hcx (c_m_fails l D kc A e0 M hG hwf hpr 2 (by decide)) (cwV 1 X.1.2.2.2.2 gX8_dispute_X8_fails rfl rfl rfl (by decide +kernel) ⟨Nat.le_of_ble_eq_true rfl, Nat.le_of_ble_eq_true rfl⟩) hg11 rfl rfl rfl hl.1 (Nat.le_of_ble_eq_true rfl) dX8_dispute_57 ⟨by decide, by decide⟩ (fun r16 M17 H locs p18 Y => ?_)
          obtain ⟨hr9, hG19⟩ := p18
          refine n_top (hr9.trans (bN_t (by decide))) ?_
          refine n_if_eq hx hb 65 (by omega) dX8_dispute_60 (by decide) (fun zq => absurd zq (by decide)) (fun _ => ?_)
          refine n_iconst hx hb 0 dX8_dispute_63 (by decide) ?_
          refine m_iret X Y hr hlocks (by decide) (by decide) ?_ dX8_dispute_64
          exact MC_i (c := 2) (by (simp only [sp_dispute, hva, ix_nI hla, hrb, Bool.and_self, Bool.and_true, Bool.and_false, Bool.false_and, Bool.true_and, Bool.false_eq_true, reduceIte]) <;> rfl) hG19
      · refine n_top (bN_f hcg) ?_
        refine n_if_eq hx hb 22 (by omega) dX8_dispute_6 (by decide) (fun _ => ?_) (fun zq => absurd zq (by decide))
        refine n_iconst hx hb 0 dX8_dispute_22 (by decide) ?_
        refine lv_istore_n (lv' := [(3, .int (nI 0)), (0, .ref (g.1 11 0)), (1, .int (nI ja)), (2, .int b)]) hx hb dX8_dispute_23 rfl hl (by decide) rfl (fun ls hl => ?_)
        refine lv_aload_n hx hb dX8_dispute_24 rfl (lv_at hl 1 rfl) ?_
        refine lv_aload_n hx hb dX8_dispute_25 rfl (lv_at hl 1 rfl) ?_
        refine lv_iload_n hx hb dX8_dispute_26 rfl (lv_at hl 2 rfl) ?_
        refine m_rVi (As := [.int (nI ja)]) (rest := [.ref (g.1 11 0)]) X Y hA hcx (c_m_isCapture l D kc A e0 M hG hwf hpr (nI ja)) (cwV 1 X.1.2.2.2.2 gX8_dispute_X8_isCapture rfl rfl rfl (by decide +kernel) ⟨Nat.le_of_ble_eq_true rfl, Nat.le_of_ble_eq_true rfl⟩) hg11 rfl rfl rfl hl.1 (Nat.le_of_ble_eq_true rfl) dX8_dispute_27 ⟨by decide, by decide⟩ (fun H locs Y => ?_)
        refine n_top (bN_t hva) ?_
        refine n_if_ne hx hb 37 (by omega) dX8_dispute_30 (by decide) (fun _ => ?_) (fun zq => absurd zq (by decide))
        refine lv_iload_n hx hb dX8_dispute_37 rfl (lv_at hl 3 rfl) ?_
        refine m_rSi (As := [.int b]) (rest := [.ref (g.1 11 0)]) X Y hA hcx (c_m_isAmount l D kc A e0 M b) (va_cwS 1 X.1.2.2.2.2 gX8_dispute_X8_isAmount rfl rfl rfl (by decide +kernel) ⟨Nat.le_of_ble_eq_true rfl, Nat.le_of_ble_eq_true rfl⟩) rfl rfl hl.1 (Nat.le_of_ble_eq_true rfl) dX8_dispute_38 ⟨by decide, by decide⟩ (fun H locs Y => ?_)
        refine n_top (bN_f (by rw [hrb]; decide)) ?_
        refine n_if_ne hx hb 48 (by omega) dX8_dispute_41 (by decide) (fun zq => absurd zq (by decide)) (fun _ => ?_)
        refine n_iconst hx hb 2 dX8_dispute_44 (by decide) ?_
        refine lv_goto (tgt := 57) hx hb dX8_dispute_45 (by decide) ?_
        refine m_Vi (As := [.int (nI 2)]) (rest := []) X Y hA hcx (c_m_fails l D kc A e0 M hG hwf hpr 2 (by decide)) (cwV 1 X.1.2.2.2.2 gX8_dispute_X8_fails rfl rfl rfl (by decide +kernel) ⟨Nat.le_of_ble_eq_true rfl, Nat.le_of_ble_eq_true rfl⟩) hg11 rfl rfl rfl hl.1 (Nat.le_of_ble_eq_true rfl) dX8_dispute_57 ⟨by decide, by decide⟩ (fun r20 M21 H locs p22 Y => ?_)
        obtain ⟨hr9, hG23⟩ := p22
        refine n_top (hr9.trans (bN_t (by decide))) ?_
        refine n_if_eq hx hb 65 (by omega) dX8_dispute_60 (by decide) (fun zq => absurd zq (by decide)) (fun _ => ?_)
        refine n_iconst hx hb 0 dX8_dispute_63 (by decide) ?_
        refine m_iret X Y hr hlocks (by decide) (by decide) ?_ dX8_dispute_64
        exact MC_i (c := 2) (by (simp only [sp_dispute, hva, ix_nI hla, hrb, Bool.and_self, Bool.and_true, Bool.and_false, Bool.false_and, Bool.true_and, Bool.false_eq_true, reduceIte]) <;> rfl) hG23
    | true =>
      obtain ⟨jb, hab, hbb, hlb, rfl⟩ := rI_t hrb
      refine lv_aload_n hx hb dX8_dispute_0 rfl (lv_at hl 0 rfl) ?_
      refine lv_iload_n hx hb dX8_dispute_1 rfl (lv_at hl 1 rfl) ?_
      refine lv_iload_n hx hb dX8_dispute_2 rfl (lv_at hl 2 rfl) ?_
      have hw1 := hwf.2.2.2.2.2.2.1 _ hja
      have hg24 := hG.f11 (hpr 11 (by decide))
      refine m_rVi (As := [.int (nI ja), .int (nI jb)]) (rest := []) X Y hA hcx (c_m_canGive l D kc A e0 M hG hwf hpr ja (nI jb) hja) (cwV 2 X.1.2.2.2.2 gX8_dispute_X8_canGive rfl rfl rfl (by decide +kernel) ⟨Nat.le_of_ble_eq_true rfl, Nat.le_of_ble_eq_true rfl⟩) hg24 rfl rfl rfl hl.1 (Nat.le_of_ble_eq_true rfl) dX8_dispute_3 ⟨by decide, by decide⟩ (fun H locs Y => ?_)
      by_cases hcg : (nI jb) ≤ nI (τ.1 13 ja - gb τ ja)
      · refine n_top (bN_t hcg) ?_
        rw [nI_le2 (by omega) (by omega)] at hcg
        refine n_if_eq hx hb 22 (by omega) dX8_dispute_6 (by decide) (fun zq => absurd zq (by decide)) (fun _ => ?_)
        refine lv_aload_n hx hb dX8_dispute_9 rfl (lv_at hl 0 rfl) ?_
        refine m_get (ref := "CardPortModel") (C := RX8) (T := TX8) (N := 25) (ci := 9) X Y htX8_dispute_wsX801 hg24 rfl 16 (by decide) kwX8_dispute_1 rfl (v := .int (nI (nB τ))) rfl dX8_dispute_10 ?_
        refine n_bipush hx hb 60 dX8_dispute_13 (by decide) ?_
        refine n_icmp_ge hx hb 22 (by omega) (by omega) dX8_dispute_15 (by decide) (fun c15 => ?_) (fun c15 => ?_)
        · refine n_iconst hx hb 0 dX8_dispute_22 (by decide) ?_
          refine lv_istore_n (lv' := [(3, .int (nI 0)), (0, .ref (g.1 11 0)), (1, .int (nI ja)), (2, .int (nI jb))]) hx hb dX8_dispute_23 rfl hl (by decide) rfl (fun ls hl => ?_)
          refine lv_aload_n hx hb dX8_dispute_24 rfl (lv_at hl 1 rfl) ?_
          refine lv_aload_n hx hb dX8_dispute_25 rfl (lv_at hl 1 rfl) ?_
          refine lv_iload_n hx hb dX8_dispute_26 rfl (lv_at hl 2 rfl) ?_
          refine m_rVi (As := [.int (nI ja)]) (rest := [.ref (g.1 11 0)]) X Y hA hcx (c_m_isCapture l D kc A e0 M hG hwf hpr (nI ja)) (cwV 1 X.1.2.2.2.2 gX8_dispute_X8_isCapture rfl rfl rfl (by decide +kernel) ⟨Nat.le_of_ble_eq_true rfl, Nat.le_of_ble_eq_true rfl⟩) hg24 rfl rfl rfl hl.1 (Nat.le_of_ble_eq_true rfl) dX8_dispute_27 ⟨by decide, by decide⟩ (fun H locs Y => ?_)
          refine n_top (bN_t hva) ?_
          refine n_if_ne hx hb 37 (by omega) dX8_dispute_30 (by decide) (fun _ => ?_) (fun zq => absurd zq (by decide))
          refine lv_iload_n hx hb dX8_dispute_37 rfl (lv_at hl 3 rfl) ?_
          refine m_rSi (As := [.int (nI jb)]) (rest := [.ref (g.1 11 0)]) X Y hA hcx (c_m_isAmount l D kc A e0 M (nI jb)) (va_cwS 1 X.1.2.2.2.2 gX8_dispute_X8_isAmount rfl rfl rfl (by decide +kernel) ⟨Nat.le_of_ble_eq_true rfl, Nat.le_of_ble_eq_true rfl⟩) rfl rfl hl.1 (Nat.le_of_ble_eq_true rfl) dX8_dispute_38 ⟨by decide, by decide⟩ (fun H locs Y => ?_)
          refine n_top (bN_t hrb) ?_
          refine n_if_ne hx hb 48 (by omega) dX8_dispute_41 (by decide) (fun _ => ?_) (fun zq => absurd zq (by decide))
          refine lv_iload_n hx hb dX8_dispute_48 rfl (lv_at hl 0 rfl) ?_
          refine n_if_eq hx hb 56 (by omega) dX8_dispute_49 (by decide) (fun _ => ?_) (fun zq => absurd zq (by decide))
          refine n_iconst hx hb 3 dX8_dispute_56 (by decide) ?_
          refine m_Vi (As := [.int (nI 3)]) (rest := []) X Y hA hcx (c_m_fails l D kc A e0 M hG hwf hpr 3 (by decide)) (cwV 1 X.1.2.2.2.2 gX8_dispute_X8_fails rfl rfl rfl (by decide +kernel) ⟨Nat.le_of_ble_eq_true rfl, Nat.le_of_ble_eq_true rfl⟩) hg24 rfl rfl rfl hl.1 (Nat.le_of_ble_eq_true rfl) dX8_dispute_57 ⟨by decide, by decide⟩ (fun r25 M26 H locs p27 Y => ?_)
          obtain ⟨hr9, hG28⟩ := p27
          refine n_top (hr9.trans (bN_t (by decide))) ?_
          refine n_if_eq hx hb 65 (by omega) dX8_dispute_60 (by decide) (fun zq => absurd zq (by decide)) (fun _ => ?_)
          refine n_iconst hx hb 0 dX8_dispute_63 (by decide) ?_
          refine m_iret X Y hr hlocks (by decide) (by decide) ?_ dX8_dispute_64
          exact MC_i (c := 3) (by (simp only [sp_dispute, hva, ix_nI hla, hrb, ix_nI hlb, Bool.and_self, Bool.and_true, Bool.and_false, Bool.false_and, Bool.true_and, Bool.false_eq_true, reduceIte]; rw [if_neg (by omega)]) <;> rfl) hG28
        · refine n_iconst hx hb 1 dX8_dispute_18 (by decide) ?_
          refine lv_goto (tgt := 23) hx hb dX8_dispute_19 (by decide) ?_
          refine lv_istore_n (lv' := [(3, .int (nI 1)), (0, .ref (g.1 11 0)), (1, .int (nI ja)), (2, .int (nI jb))]) hx hb dX8_dispute_23 rfl hl (by decide) rfl (fun ls hl => ?_)
          refine lv_aload_n hx hb dX8_dispute_24 rfl (lv_at hl 1 rfl) ?_
          refine lv_aload_n hx hb dX8_dispute_25 rfl (lv_at hl 1 rfl) ?_
          refine lv_iload_n hx hb dX8_dispute_26 rfl (lv_at hl 2 rfl) ?_
          refine m_rVi (As := [.int (nI ja)]) (rest := [.ref (g.1 11 0)]) X Y hA hcx (c_m_isCapture l D kc A e0 M hG hwf hpr (nI ja)) (cwV 1 X.1.2.2.2.2 gX8_dispute_X8_isCapture rfl rfl rfl (by decide +kernel) ⟨Nat.le_of_ble_eq_true rfl, Nat.le_of_ble_eq_true rfl⟩) hg24 rfl rfl rfl hl.1 (Nat.le_of_ble_eq_true rfl) dX8_dispute_27 ⟨by decide, by decide⟩ (fun H locs Y => ?_)
          refine n_top (bN_t hva) ?_
          refine n_if_ne hx hb 37 (by omega) dX8_dispute_30 (by decide) (fun _ => ?_) (fun zq => absurd zq (by decide))
          refine lv_iload_n hx hb dX8_dispute_37 rfl (lv_at hl 3 rfl) ?_
          refine m_rSi (As := [.int (nI jb)]) (rest := [.ref (g.1 11 0)]) X Y hA hcx (c_m_isAmount l D kc A e0 M (nI jb)) (va_cwS 1 X.1.2.2.2.2 gX8_dispute_X8_isAmount rfl rfl rfl (by decide +kernel) ⟨Nat.le_of_ble_eq_true rfl, Nat.le_of_ble_eq_true rfl⟩) rfl rfl hl.1 (Nat.le_of_ble_eq_true rfl) dX8_dispute_38 ⟨by decide, by decide⟩ (fun H locs Y => ?_)
          refine n_top (bN_t hrb) ?_
          refine n_if_ne hx hb 48 (by omega) dX8_dispute_41 (by decide) (fun _ => ?_) (fun zq => absurd zq (by decide))
          refine lv_iload_n hx hb dX8_dispute_48 rfl (lv_at hl 0 rfl) ?_
          refine n_if_eq hx hb 56 (by omega) dX8_dispute_49 (by decide) (fun zq => absurd zq (by decide)) (fun _ => ?_)
          refine n_iconst hx hb 0 dX8_dispute_52 (by decide) ?_
          refine lv_goto (tgt := 57) hx hb dX8_dispute_53 (by decide) ?_
          refine m_Vi (As := [.int (nI 0)]) (rest := []) X Y hA hcx (c_m_fails l D kc A e0 M hG hwf hpr 0 (by decide)) (cwV 1 X.1.2.2.2.2 gX8_dispute_X8_fails rfl rfl rfl (by decide +kernel) ⟨Nat.le_of_ble_eq_true rfl, Nat.le_of_ble_eq_true rfl⟩) hg24 rfl rfl rfl hl.1 (Nat.le_of_ble_eq_true rfl) dX8_dispute_57 ⟨by decide, by decide⟩ (fun r29 M30 H locs p31 Y => ?_)
          obtain ⟨hr9, hG32⟩ := p31
          refine n_top (hr9.trans (bN_f (by decide))) ?_
          refine n_if_eq hx hb 65 (by omega) dX8_dispute_60 (by decide) (fun _ => ?_) (fun zq => absurd zq (by decide))
          have hcx9 : jb + gb τ ja ≤ τ.1 13 ja ∧ nB τ < 60 := ⟨by omega, by omega⟩
          have hw5 := hwf.2.2.2.2.1 _ hw1.1
          refine lv_aload_n hx hb dX8_dispute_65 rfl (lv_at hl 1 rfl) ?_
          have hg33 := hG32.f11 (hpr 11 (by decide))
          refine m_get (ref := "CardPortModel") (C := RX8) (T := TX8) (N := 25) (ci := 9) X Y htX8_dispute_wsX801 hg33 rfl 16 (by decide) kwX8_dispute_1 rfl (v := .int (nI (nB τ))) rfl dX8_dispute_66 ?_
          refine lv_istore (lv' := [(4, .int (nI (nB τ))), (3, .int (nI 1)), (0, .ref (g.1 11 0)), (1, .int (nI ja)), (2, .int (nI jb))]) hx hb dX8_dispute_69 hl (by decide) rfl (fun ls hl => ?_)
          refine lv_aload_n hx hb dX8_dispute_71 rfl (lv_at hl 2 rfl) ?_
          refine m_get (ref := "CardPortModel") (C := RX8) (T := TX8) (N := 25) (ci := 9) X Y htX8_dispute_wsX801 hg33 rfl 17 (by decide) kwX8_dispute_2 rfl (v := .ref (g.1 12 17)) rfl dX8_dispute_72 ?_
          refine lv_iload hx hb dX8_dispute_75 (lv_at hl 0 rfl) ?_
          refine n_iconst hx hb 0 dX8_dispute_77 (by decide) ?_
          refine g_iast X Y hG32 (hpr 12 (by decide)) (k := 17) (by decide) (j := nB τ) (v := 0) (show nB τ < 60 by omega) dX8_dispute_78 (fun M34 H locs hG35 Y => ?_)
          refine lv_aload_n hx hb dX8_dispute_79 rfl (lv_at hl 2 rfl) ?_
          have hg36 := hG35.f11 (hpr 11 (by decide))
          refine m_get (ref := "CardPortModel") (C := RX8) (T := TX8) (N := 25) (ci := 9) X Y htX8_dispute_wsX801 hg36 rfl 18 (by decide) kwX8_dispute_3 rfl (v := .ref (g.1 12 18)) rfl dX8_dispute_80 ?_
          refine lv_iload hx hb dX8_dispute_83 (lv_at hl 0 rfl) ?_
          refine lv_iload_n hx hb dX8_dispute_85 rfl (lv_at hl 3 rfl) ?_
          refine g_iast X Y hG35 (hpr 12 (by decide)) (k := 18) (by decide) (j := nB τ) (v := ja) (show nB τ < 60 by omega) dX8_dispute_86 (fun M37 H locs hG38 Y => ?_)
          refine lv_aload_n hx hb dX8_dispute_87 rfl (lv_at hl 2 rfl) ?_
          have hg39 := hG38.f11 (hpr 11 (by decide))
          refine m_get (ref := "CardPortModel") (C := RX8) (T := TX8) (N := 25) (ci := 9) X Y htX8_dispute_wsX801 hg39 rfl 19 (by decide) kwX8_dispute_4 rfl (v := .ref (g.1 12 19)) rfl dX8_dispute_88 ?_
          refine lv_iload hx hb dX8_dispute_91 (lv_at hl 0 rfl) ?_
          refine lv_iload_n hx hb dX8_dispute_93 rfl (lv_at hl 4 rfl) ?_
          refine g_iast X Y hG38 (hpr 12 (by decide)) (k := 19) (by decide) (j := nB τ) (v := jb) (show nB τ < 60 by omega) dX8_dispute_94 (fun M40 H locs hG41 Y => ?_)
          refine lv_aload_n hx hb dX8_dispute_95 rfl (lv_at hl 2 rfl) ?_
          have hg42 := hG41.f11 (hpr 11 (by decide))
          refine m_get (ref := "CardPortModel") (C := RX8) (T := TX8) (N := 25) (ci := 9) X Y htX8_dispute_wsX801 hg42 rfl 20 (by decide) kwX8_dispute_5 rfl (v := .ref (g.1 12 20)) rfl dX8_dispute_96 ?_
          refine lv_iload hx hb dX8_dispute_99 (lv_at hl 0 rfl) ?_
          refine lv_aload_n hx hb dX8_dispute_101 rfl (lv_at hl 2 rfl) ?_
          refine m_get (ref := "CardPortModel") (C := RX8) (T := TX8) (N := 25) (ci := 9) X Y htX8_dispute_wsX801 hg42 rfl 0 (by decide) kwX8_dispute_6 rfl (v := .int (nI (tD τ))) rfl dX8_dispute_102 ?_
          refine n_bipush hx hb 10 dX8_dispute_105 (by decide) ?_
          refine n_iadd hx hb dX8_dispute_107 ?_
          refine g_iast X Y hG41 (hpr 12 (by decide)) (k := 20) (by decide) (j := nB τ) (v := (tD τ) + 10) (show nB τ < 60 by omega) dX8_dispute_108 (fun M43 H locs hG44 Y => ?_)
          refine lv_aload_n hx hb dX8_dispute_109 rfl (lv_at hl 2 rfl) ?_
          refine lv_dup hx hb dX8_dispute_110 rfl ?_
          have hg45 := hG44.f11 (hpr 11 (by decide))
          refine m_get (ref := "CardPortModel") (C := RX8) (T := TX8) (N := 25) (ci := 9) X Y htX8_dispute_wsX801 hg45 rfl 16 (by decide) kwX8_dispute_1 rfl (v := .int (nI (nB τ))) rfl dX8_dispute_111 ?_
          refine n_iconst hx hb 1 dX8_dispute_114 (by decide) ?_
          refine n_iadd hx hb dX8_dispute_115 ?_
          refine m_put (ref := "CardPortModel") (C := RX8) (T := TX8) (N := 25) (ci := 9) X Y htX8_dispute_wsX801 tyX8 tyX8_ok nmX8 hg45 rfl 16 (by decide) kwX8_dispute_1 rfl rfl (v := .int (nI ((nB τ) + 1))) rfl rfl (Nat.le_of_ble_eq_true rfl) dX8_dispute_116 (fun H locs Y => ?_)
          obtain ⟨M46, eM46⟩ : ∃ zz9 : Mp, zz9 = mu M43 (g.1 11 0) (.inr (9, [.int (nI (tD τ)), .ref (g.1 12 1), .ref (g.1 12 2), .ref (g.1 12 3), .int (nI (nP τ)), .ref (g.1 12 5), .ref (g.1 12 6), .ref (g.1 12 7), .ref (g.1 12 8), .ref (g.1 12 9), .ref (g.1 12 10), .int (nI (nC τ)), .ref (g.1 12 12), .ref (g.1 12 13), .ref (g.1 12 14), .ref (g.1 12 15), .int (nI ((nB τ) + 1)), .ref (g.1 12 17), .ref (g.1 12 18), .ref (g.1 12 19), .ref (g.1 12 20), .int (nI (τ.1 21 0)), .ref (g.1 12 22), .ref (g.1 12 23), .int (nI 0)])) := ⟨_, rfl⟩
          replace Y : mY D A M46 s H locs := by rw [eM46]; exact Y
          have hh47 : M46 (g.1 11 0) = some (.inr (9, [.int (nI (tD τ)), .ref (g.1 12 1), .ref (g.1 12 2), .ref (g.1 12 3), .int (nI (nP τ)), .ref (g.1 12 5), .ref (g.1 12 6), .ref (g.1 12 7), .ref (g.1 12 8), .ref (g.1 12 9), .ref (g.1 12 10), .int (nI (nC τ)), .ref (g.1 12 12), .ref (g.1 12 13), .ref (g.1 12 14), .ref (g.1 12 15), .int (nI ((nB τ) + 1)), .ref (g.1 12 17), .ref (g.1 12 18), .ref (g.1 12 19), .ref (g.1 12 20), .int (nI (τ.1 21 0)), .ref (g.1 12 22), .ref (g.1 12 23), .int (nI 0)])) := by rw [eM46]; exact mu_self _ _ _
          have hG48 : G pr kc e0 σ ((up2 (up2 (up2 (up2 (up2 τ.1 17 (nB τ) 0) 18 (nB τ) ja) 19 (nB τ) jb) 20 (nB τ) ((tD τ) + 10)) 16 0 ((nB τ) + 1)), τ.2) (nI 0) o g M46 := by rw [eM46]; exact hG44.setF (hpr 11 (by decide)) (k := 16) (v := (nB τ) + 1) (by decide)
          have hwf2 : WS nn ((up2 (up2 (up2 (up2 (up2 τ.1 17 (nB τ) 0) 18 (nB τ) ja) 19 (nB τ) jb) 20 (nB τ) ((tD τ) + 10)) 16 0 ((nB τ) + 1)), τ.2) := WS_nu (σ := addCb τ ja jb) (WS_cb hwf hja hcx9.1 (by omega) hcx9.2)
          refine lv_aload_n hx hb dX8_dispute_119 rfl (lv_at hl 2 rfl) ?_
          refine lv_aload_n hx hb dX8_dispute_120 rfl (lv_at hl 2 rfl) ?_
          refine lv_iload_n hx hb dX8_dispute_121 rfl (lv_at hl 3 rfl) ?_
          have hg49 := hG48.f11 (hpr 11 (by decide))
          refine m_rVi (As := [.int (nI ja)]) (rest := [.ref (g.1 11 0)]) X Y hA hcx (c_m_shopBank l D kc A e0 M46 hG48 hwf2 hpr (ja) hja) (cwV 1 X.1.2.2.2.2 gX8_dispute_X8_shopBank rfl rfl rfl (by decide +kernel) ⟨Nat.le_of_ble_eq_true rfl, Nat.le_of_ble_eq_true rfl⟩) hg49 rfl rfl rfl hl.1 (Nat.le_of_ble_eq_true rfl) dX8_dispute_122 ⟨by decide, by decide⟩ (fun H locs Y => ?_)
          refine lv_aload_n hx hb dX8_dispute_125 rfl (lv_at hl 2 rfl) ?_
          refine lv_iload_n hx hb dX8_dispute_126 rfl (lv_at hl 3 rfl) ?_
          refine m_rVi (As := [.int (nI ja)]) (rest := [.int (nI (sBk τ (ja))), .ref (g.1 11 0)]) X Y hA hcx (c_m_cardBank l D kc A e0 M46 hG48 hwf2 hpr (ja) hja) (cwV 1 X.1.2.2.2.2 gX8_dispute_X8_cardBank rfl rfl rfl (by decide +kernel) ⟨Nat.le_of_ble_eq_true rfl, Nat.le_of_ble_eq_true rfl⟩) hg49 rfl rfl rfl hl.1 (Nat.le_of_ble_eq_true rfl) dX8_dispute_127 ⟨by decide, by decide⟩ (fun H locs Y => ?_)
          refine lv_iload_n hx hb dX8_dispute_130 rfl (lv_at hl 4 rfl) ?_
          refine m_Vv (As := [.int (nI (sBk τ (ja))), .int (nI (cBk τ (ja))), .int (nI jb)]) (rest := []) X Y hA hcx (c_m_pays l D kc A e0 M46 hG48 hwf2 hpr (sBk τ (ja)) (cBk τ (ja)) (jb) (Nat.mod_lt _ (by decide)) (div3 hw5.1) (by omega)) (cwV 3 X.1.2.2.2.2 gX8_dispute_X8_pays rfl rfl rfl (by decide +kernel) ⟨Nat.le_of_ble_eq_true rfl, Nat.le_of_ble_eq_true rfl⟩) hg49 rfl rfl rfl hl.1 (Nat.le_of_ble_eq_true rfl) dX8_dispute_131 ⟨by decide, by decide⟩ (fun M50 H locs p51 Y => ?_)
          have hG52 : G pr kc e0 σ ((up2 (up2 (up2 (up2 (up2 τ.1 17 (nB τ) 0) 18 (nB τ) ja) 19 (nB τ) jb) 20 (nB τ) ((tD τ) + 10)) 16 0 ((nB τ) + 1)), (payN τ.2 (sBk τ (ja)) (cBk τ (ja)) ((jb : Nat) : Int))) (nI 0) o g M50 := p51
          refine lv_iload hx hb dX8_dispute_134 (lv_at hl 0 rfl) ?_
          refine m_iret X Y hr hlocks (by decide) (by decide) ?_ dX8_dispute_136
          exact MC_i (c := 0) (by (simp only [sp_dispute, hva, ix_nI hla, hrb, ix_nI hlb, Bool.and_self, Bool.and_true, Bool.and_false, Bool.false_and, Bool.true_and, Bool.false_eq_true, reduceIte]; rw [if_pos hcx9]) <;> rfl) hG52
      · refine n_top (bN_f hcg) ?_
        rw [nI_le2 (by omega) (by omega)] at hcg
        refine n_if_eq hx hb 22 (by omega) dX8_dispute_6 (by decide) (fun _ => ?_) (fun zq => absurd zq (by decide))
        refine n_iconst hx hb 0 dX8_dispute_22 (by decide) ?_
        refine lv_istore_n (lv' := [(3, .int (nI 0)), (0, .ref (g.1 11 0)), (1, .int (nI ja)), (2, .int (nI jb))]) hx hb dX8_dispute_23 rfl hl (by decide) rfl (fun ls hl => ?_)
        refine lv_aload_n hx hb dX8_dispute_24 rfl (lv_at hl 1 rfl) ?_
        refine lv_aload_n hx hb dX8_dispute_25 rfl (lv_at hl 1 rfl) ?_
        refine lv_iload_n hx hb dX8_dispute_26 rfl (lv_at hl 2 rfl) ?_
        refine m_rVi (As := [.int (nI ja)]) (rest := [.ref (g.1 11 0)]) X Y hA hcx (c_m_isCapture l D kc A e0 M hG hwf hpr (nI ja)) (cwV 1 X.1.2.2.2.2 gX8_dispute_X8_isCapture rfl rfl rfl (by decide +kernel) ⟨Nat.le_of_ble_eq_true rfl, Nat.le_of_ble_eq_true rfl⟩) hg24 rfl rfl rfl hl.1 (Nat.le_of_ble_eq_true rfl) dX8_dispute_27 ⟨by decide, by decide⟩ (fun H locs Y => ?_)
        refine n_top (bN_t hva) ?_
        refine n_if_ne hx hb 37 (by omega) dX8_dispute_30 (by decide) (fun _ => ?_) (fun zq => absurd zq (by decide))
        refine lv_iload_n hx hb dX8_dispute_37 rfl (lv_at hl 3 rfl) ?_
        refine m_rSi (As := [.int (nI jb)]) (rest := [.ref (g.1 11 0)]) X Y hA hcx (c_m_isAmount l D kc A e0 M (nI jb)) (va_cwS 1 X.1.2.2.2.2 gX8_dispute_X8_isAmount rfl rfl rfl (by decide +kernel) ⟨Nat.le_of_ble_eq_true rfl, Nat.le_of_ble_eq_true rfl⟩) rfl rfl hl.1 (Nat.le_of_ble_eq_true rfl) dX8_dispute_38 ⟨by decide, by decide⟩ (fun H locs Y => ?_)
        refine n_top (bN_t hrb) ?_
        refine n_if_ne hx hb 48 (by omega) dX8_dispute_41 (by decide) (fun _ => ?_) (fun zq => absurd zq (by decide))
        refine lv_iload_n hx hb dX8_dispute_48 rfl (lv_at hl 0 rfl) ?_
        refine n_if_eq hx hb 56 (by omega) dX8_dispute_49 (by decide) (fun _ => ?_) (fun zq => absurd zq (by decide))
        refine n_iconst hx hb 3 dX8_dispute_56 (by decide) ?_
        refine m_Vi (As := [.int (nI 3)]) (rest := []) X Y hA hcx (c_m_fails l D kc A e0 M hG hwf hpr 3 (by decide)) (cwV 1 X.1.2.2.2.2 gX8_dispute_X8_fails rfl rfl rfl (by decide +kernel) ⟨Nat.le_of_ble_eq_true rfl, Nat.le_of_ble_eq_true rfl⟩) hg24 rfl rfl rfl hl.1 (Nat.le_of_ble_eq_true rfl) dX8_dispute_57 ⟨by decide, by decide⟩ (fun r53 M54 H locs p55 Y => ?_)
        obtain ⟨hr9, hG56⟩ := p55
        refine n_top (hr9.trans (bN_t (by decide))) ?_
        refine n_if_eq hx hb 65 (by omega) dX8_dispute_60 (by decide) (fun zq => absurd zq (by decide)) (fun _ => ?_)
        refine n_iconst hx hb 0 dX8_dispute_63 (by decide) ?_
        refine m_iret X Y hr hlocks (by decide) (by decide) ?_ dX8_dispute_64
        exact MC_i (c := 3) (by (simp only [sp_dispute, hva, ix_nI hla, hrb, ix_nI hlb, Bool.and_self, Bool.and_true, Bool.and_false, Bool.false_and, Bool.true_and, Bool.false_eq_true, reduceIte]; rw [if_neg (by omega)]) <;> rfl) hG56
theorem kwX8_answer_1 : Cond.fieldLink RX8 50 "CardPortModel" "state" "[I" ∈ wsX8_answer := List.mem_of_getElem? (i := 1) rfl
theorem htX8_answer_wsX801 : ∀ w ∈ wsX80, w ∈ wsX8_answer := fun _ h => List.mem_cons_of_mem _ (List.mem_append_right _ h)
theorem kwX8_answer_2 : Cond.fieldLink RX8 59 "CardPortModel" "until" "[I" ∈ wsX8_answer := List.mem_of_getElem? (i := 2) rfl
theorem kwX8_answer_3 : Cond.fieldLink RX8 114 "CardPortModel" "day" "I" ∈ wsX8_answer := List.mem_of_getElem? (i := 3) rfl
set_option maxHeartbeats 4000000 in
set_option maxRecDepth 100000 in
theorem c_X8_answer (l : Launch) (D : va_G) (kc : Nat → ClassId) (A : Nat → Prop) (e0 : Nat × Nat) (M : Mp) {pr : Nat → Prop} {σ τ : Sg} {th : Int32} {o : Int64} {g : Gh} {nn : Nat} (hG : G pr kc e0 σ τ th o g M) (hwf : WS nn τ) (hpr : ∀ t, t ≤ 13 → pr t) (a : Int32) : Met l yX8_answer wsX8_answer ({ frames := 2, cells := 0, slots := 0, locals := 44 }) (mPre D kc A e0 M [.ref (g.1 11 0), .int a]) (va_Qi (MC pr kc e0 σ o g (sp_answer τ a)) (mB D A) A) 0 0 A := by
  refine Met.ofW (cc := cX8_answer) (maxL := 2) (ret := (some .int)) (by decide) rfl ?_
  intro p e s m args below meth c s₁ B hml hv
  obtain ⟨rfl, hw, hK, hA, hcx⟩ := hv
  have X : mX p s m _ c cX8_answer 2 RX8 wsX8_answer D kc := ⟨⟨B.exec, B.bytes, hml, findClass_of_methodNamed B.named, atoms_spec (ws := wsX8_answer) B.pre⟩, hK⟩
  have hx := B.exec
  have hb := B.bytes
  have hr := B.returns
  have hlocks := B.notSynchronized
  have Y : mY D A M s s.heap [] := ⟨hw, va_S.rf⟩
  have hl := lv_entry ([.ref (g.1 11 0), .int a]) (n := 2) (Nat.le_of_ble_eq_true rfl)
  rw [lg_entry_eq]
  generalize (lg_sl ([.ref (g.1 11 0), .int a]) ++ List.replicate (2 - (lg_sl ([.ref (g.1 11 0), .int a])).length) Slot.unset).toArray = ls at hl ⊢
  have hl : lv_has ls 2 [(0, .ref (g.1 11 0)), (1, .int a)] := hl
  have hwn := hwf.2.2.2.1
  have hwd := hwf.1
  cases hva : vI a (nB τ) with
  | false =>
    refine lv_aload_n hx hb dX8_answer_0 rfl (lv_at hl 0 rfl) ?_
    refine lv_aload_n hx hb dX8_answer_1 rfl (lv_at hl 0 rfl) ?_
    refine lv_iload_n hx hb dX8_answer_2 rfl (lv_at hl 1 rfl) ?_
    refine n_iconst hx hb 0 dX8_answer_3 (by decide) ?_
    have hg1 := hG.f11 (hpr 11 (by decide))
    refine m_rVi (As := [.int a, .int (nI 0)]) (rest := [.ref (g.1 11 0)]) X Y hA hcx (c_m_misses l D kc A e0 M hG hwf hpr a 0 (by decide)) (cwV 2 X.1.2.2.2.2 gX8_answer_X8_misses rfl rfl rfl (by decide +kernel) ⟨Nat.le_of_ble_eq_true rfl, Nat.le_of_ble_eq_true rfl⟩) hg1 rfl rfl rfl hl.1 (Nat.le_of_ble_eq_true rfl) dX8_answer_4 ⟨by decide, by decide⟩ (fun H locs Y => ?_)
    refine n_top (y := nI 1) (by unfold miN; rw [if_neg (by rw [hva]; decide)]) ?_
    refine m_Vi (As := [.int (nI 1)]) (rest := []) X Y hA hcx (c_m_fails l D kc A e0 M hG hwf hpr 1 (by decide)) (cwV 1 X.1.2.2.2.2 gX8_answer_X8_fails rfl rfl rfl (by decide +kernel) ⟨Nat.le_of_ble_eq_true rfl, Nat.le_of_ble_eq_true rfl⟩) hg1 rfl rfl rfl hl.1 (Nat.le_of_ble_eq_true rfl) dX8_answer_7 ⟨by decide, by decide⟩ (fun r2 M3 H locs p4 Y => ?_)
    obtain ⟨hr9, hG5⟩ := p4
    refine n_top (hr9.trans (bN_t (by decide))) ?_
    refine n_if_eq hx hb 15 (by omega) dX8_answer_10 (by decide) (fun zq => absurd zq (by decide)) (fun _ => ?_)
    refine n_iconst hx hb 0 dX8_answer_13 (by decide) ?_
    refine m_iret X Y hr hlocks (by decide) (by decide) ?_ dX8_answer_14
    exact MC_i (c := 1) (by (simp only [sp_answer, hva, Bool.and_self, Bool.and_true, Bool.and_false, Bool.false_and, Bool.true_and, Bool.false_eq_true, reduceIte]) <;> rfl) hG5
  | true =>
    obtain ⟨ja, hja, hla, rfl⟩ := vI_t hva
    refine lv_aload_n hx hb dX8_answer_0 rfl (lv_at hl 0 rfl) ?_
    refine lv_aload_n hx hb dX8_answer_1 rfl (lv_at hl 0 rfl) ?_
    refine lv_iload_n hx hb dX8_answer_2 rfl (lv_at hl 1 rfl) ?_
    refine n_iconst hx hb 0 dX8_answer_3 (by decide) ?_
    have hg6 := hG.f11 (hpr 11 (by decide))
    refine m_rVi (As := [.int (nI ja), .int (nI 0)]) (rest := [.ref (g.1 11 0)]) X Y hA hcx (c_m_misses l D kc A e0 M hG hwf hpr (nI ja) 0 (by decide)) (cwV 2 X.1.2.2.2.2 gX8_answer_X8_misses rfl rfl rfl (by decide +kernel) ⟨Nat.le_of_ble_eq_true rfl, Nat.le_of_ble_eq_true rfl⟩) hg6 rfl rfl rfl hl.1 (Nat.le_of_ble_eq_true rfl) dX8_answer_4 ⟨by decide, by decide⟩ (fun H locs Y => ?_)
    by_cases hst : τ.1 17 ja = 0
    · refine n_top (y := nI 0) (by unfold miN; rw [if_pos hva, ix_nI hla, if_pos hst]) ?_
      refine m_Vi (As := [.int (nI 0)]) (rest := []) X Y hA hcx (c_m_fails l D kc A e0 M hG hwf hpr 0 (by decide)) (cwV 1 X.1.2.2.2.2 gX8_answer_X8_fails rfl rfl rfl (by decide +kernel) ⟨Nat.le_of_ble_eq_true rfl, Nat.le_of_ble_eq_true rfl⟩) hg6 rfl rfl rfl hl.1 (Nat.le_of_ble_eq_true rfl) dX8_answer_7 ⟨by decide, by decide⟩ (fun r7 M8 H locs p9 Y => ?_)
      obtain ⟨hr9, hG10⟩ := p9
      refine n_top (hr9.trans (bN_f (by decide))) ?_
      refine n_if_eq hx hb 15 (by omega) dX8_answer_10 (by decide) (fun _ => ?_) (fun zq => absurd zq (by decide))
      have hw9 := hwf.2.2.2.2.2.2.2.2 _ hja
      have hw1 := hwf.2.2.2.2.2.2.1 _ hw9.2.1
      have hw5 := hwf.2.2.2.2.1 _ hw1.1
      refine lv_aload_n hx hb dX8_answer_15 rfl (lv_at hl 0 rfl) ?_
      have hg11 := hG10.f11 (hpr 11 (by decide))
      refine m_get (ref := "CardPortModel") (C := RX8) (T := TX8) (N := 25) (ci := 9) X Y htX8_answer_wsX801 hg11 rfl 17 (by decide) kwX8_answer_1 rfl (v := .ref (g.1 12 17)) rfl dX8_answer_16 ?_
      refine lv_iload_n hx hb dX8_answer_19 rfl (lv_at hl 1 rfl) ?_
      refine n_iconst hx hb 1 dX8_answer_20 (by decide) ?_
      refine g_iast X Y hG10 (hpr 12 (by decide)) (k := 17) (by decide) (j := ja) (v := 1) (show ja < 60 by omega) dX8_answer_21 (fun M12 H locs hG13 Y => ?_)
      refine lv_aload_n hx hb dX8_answer_22 rfl (lv_at hl 0 rfl) ?_
      have hg14 := hG13.f11 (hpr 11 (by decide))
      refine m_get (ref := "CardPortModel") (C := RX8) (T := TX8) (N := 25) (ci := 9) X Y htX8_answer_wsX801 hg14 rfl 20 (by decide) kwX8_answer_2 rfl (v := .ref (g.1 12 20)) rfl dX8_answer_23 ?_
      refine lv_iload_n hx hb dX8_answer_26 rfl (lv_at hl 1 rfl) ?_
      refine lv_aload_n hx hb dX8_answer_27 rfl (lv_at hl 0 rfl) ?_
      refine m_get (ref := "CardPortModel") (C := RX8) (T := TX8) (N := 25) (ci := 9) X Y htX8_answer_wsX801 hg14 rfl 0 (by decide) kwX8_answer_3 rfl (v := .int (nI (tD τ))) rfl dX8_answer_28 ?_
      refine n_bipush hx hb 10 dX8_answer_31 (by decide) ?_
      refine n_iadd hx hb dX8_answer_33 ?_
      refine g_iast X Y hG13 (hpr 12 (by decide)) (k := 20) (by decide) (j := ja) (v := (tD τ) + 10) (show ja < 60 by omega) dX8_answer_34 (fun M15 H locs hG16 Y => ?_)
      have hwf2 : WS nn ((up2 (up2 τ.1 17 ja 1) 20 ja ((tD τ) + 10)), τ.2) := WS_st hwf hja (by omega) (by decide) (by omega)
      refine lv_aload_n hx hb dX8_answer_35 rfl (lv_at hl 0 rfl) ?_
      refine lv_iload_n hx hb dX8_answer_36 rfl (lv_at hl 1 rfl) ?_
      have hg17 := hG16.f11 (hpr 11 (by decide))
      refine m_Vv (As := [.int (nI ja)]) (rest := []) X Y hA hcx (c_m_paysBack l D kc A e0 M15 hG16 hwf2 hpr ja hja) (cwV 1 X.1.2.2.2.2 gX8_answer_X8_paysBack rfl rfl rfl (by decide +kernel) ⟨Nat.le_of_ble_eq_true rfl, Nat.le_of_ble_eq_true rfl⟩) hg17 rfl rfl rfl hl.1 (Nat.le_of_ble_eq_true rfl) dX8_answer_37 ⟨by decide, by decide⟩ (fun M18 H locs p19 Y => ?_)
      have hG20 : G pr kc e0 σ ((up2 (up2 τ.1 17 ja 1) 20 ja ((tD τ) + 10)), (payN τ.2 (cBk τ (τ.1 18 ja)) (sBk τ (τ.1 18 ja)) ((τ.1 19 ja : Nat) : Int))) (nI 0) o g M18 := p19
      refine lv_aload_n hx hb dX8_answer_40 rfl (lv_at hl 0 rfl) ?_
      have hg21 := hG20.f11 (hpr 11 (by decide))
      refine m_get (ref := "CardPortModel") (C := RX8) (T := TX8) (N := 25) (ci := 9) X Y htX8_answer_wsX801 hg21 rfl 20 (by decide) kwX8_answer_2 rfl (v := .ref (g.1 12 20)) rfl dX8_answer_41 ?_
      refine lv_iload_n hx hb dX8_answer_44 rfl (lv_at hl 1 rfl) ?_
      refine g_iald X Y hG20 (hpr 12 (by decide)) (k := 20) (by decide) (j := ja) (show ja < 60 by omega) (v := (tD τ) + 10) (by simp [up2]) dX8_answer_45 ?_
      refine m_iret X Y hr hlocks (by decide) (by decide) ?_ dX8_answer_46
      exact MC_i (c := 0) (by (simp only [sp_answer, hva, ix_nI hla, Bool.and_self, Bool.and_true, Bool.and_false, Bool.false_and, Bool.true_and, Bool.false_eq_true, reduceIte]; rw [if_pos hst]) <;> rfl) hG20
    · refine n_top (y := nI 2) (by unfold miN; rw [if_pos hva, ix_nI hla, if_neg hst]) ?_
      refine m_Vi (As := [.int (nI 2)]) (rest := []) X Y hA hcx (c_m_fails l D kc A e0 M hG hwf hpr 2 (by decide)) (cwV 1 X.1.2.2.2.2 gX8_answer_X8_fails rfl rfl rfl (by decide +kernel) ⟨Nat.le_of_ble_eq_true rfl, Nat.le_of_ble_eq_true rfl⟩) hg6 rfl rfl rfl hl.1 (Nat.le_of_ble_eq_true rfl) dX8_answer_7 ⟨by decide, by decide⟩ (fun r22 M23 H locs p24 Y => ?_)
      obtain ⟨hr9, hG25⟩ := p24
      refine n_top (hr9.trans (bN_t (by decide))) ?_
      refine n_if_eq hx hb 15 (by omega) dX8_answer_10 (by decide) (fun zq => absurd zq (by decide)) (fun _ => ?_)
      refine n_iconst hx hb 0 dX8_answer_13 (by decide) ?_
      refine m_iret X Y hr hlocks (by decide) (by decide) ?_ dX8_answer_14
      exact MC_i (c := 2) (by (simp only [sp_answer, hva, ix_nI hla, Bool.and_self, Bool.and_true, Bool.and_false, Bool.false_and, Bool.true_and, Bool.false_eq_true, reduceIte]; rw [if_neg hst]) <;> rfl) hG25
theorem kwX8_press_1 : Cond.fieldLink RX8 50 "CardPortModel" "state" "[I" ∈ wsX8_press := List.mem_of_getElem? (i := 1) rfl
theorem htX8_press_wsX801 : ∀ w ∈ wsX80, w ∈ wsX8_press := fun _ h => List.mem_cons_of_mem _ (List.mem_append_right _ h)
theorem kwX8_press_2 : Cond.fieldLink RX8 53 "CardPortModel" "capture" "[I" ∈ wsX8_press := List.mem_of_getElem? (i := 2) rfl
theorem kwX8_press_3 : Cond.fieldLink RX8 56 "CardPortModel" "disputed" "[I" ∈ wsX8_press := List.mem_of_getElem? (i := 3) rfl
theorem kwX8_press_4 : Cond.fieldLink RX8 136 "CardPortModel" "chargebacks" "I" ∈ wsX8_press := List.mem_of_getElem? (i := 4) rfl
set_option maxHeartbeats 4000000 in
set_option maxRecDepth 100000 in
theorem c_X8_press (l : Launch) (D : va_G) (kc : Nat → ClassId) (A : Nat → Prop) (e0 : Nat × Nat) (M : Mp) {pr : Nat → Prop} {σ τ : Sg} {th : Int32} {o : Int64} {g : Gh} {nn : Nat} (hG : G pr kc e0 σ τ th o g M) (hwf : WS nn τ) (hpr : ∀ t, t ≤ 13 → pr t) (a : Int32) : Met l yX8_press wsX8_press ({ frames := 2, cells := 0, slots := 0, locals := 44 }) (mPre D kc A e0 M [.ref (g.1 11 0), .int a]) (va_Qi (MC pr kc e0 σ o g (sp_press τ a)) (mB D A) A) 0 0 A := by
  refine Met.ofW (cc := cX8_press) (maxL := 4) (ret := (some .int)) (by decide) rfl ?_
  intro p e s m args below meth c s₁ B hml hv
  obtain ⟨rfl, hw, hK, hA, hcx⟩ := hv
  have X : mX p s m _ c cX8_press 4 RX8 wsX8_press D kc := ⟨⟨B.exec, B.bytes, hml, findClass_of_methodNamed B.named, atoms_spec (ws := wsX8_press) B.pre⟩, hK⟩
  have hx := B.exec
  have hb := B.bytes
  have hr := B.returns
  have hlocks := B.notSynchronized
  have Y : mY D A M s s.heap [] := ⟨hw, va_S.rf⟩
  have hl := lv_entry ([.ref (g.1 11 0), .int a]) (n := 4) (Nat.le_of_ble_eq_true rfl)
  rw [lg_entry_eq]
  generalize (lg_sl ([.ref (g.1 11 0), .int a]) ++ List.replicate (4 - (lg_sl ([.ref (g.1 11 0), .int a])).length) Slot.unset).toArray = ls at hl ⊢
  have hl : lv_has ls 4 [(0, .ref (g.1 11 0)), (1, .int a)] := hl
  have hwn := hwf.2.2.2.1
  have hwd := hwf.1
  cases hva : vI a (nB τ) with
  | false =>
    refine lv_aload_n hx hb dX8_press_0 rfl (lv_at hl 0 rfl) ?_
    refine lv_aload_n hx hb dX8_press_1 rfl (lv_at hl 0 rfl) ?_
    refine lv_iload_n hx hb dX8_press_2 rfl (lv_at hl 1 rfl) ?_
    refine n_iconst hx hb 1 dX8_press_3 (by decide) ?_
    have hg1 := hG.f11 (hpr 11 (by decide))
    refine m_rVi (As := [.int a, .int (nI 1)]) (rest := [.ref (g.1 11 0)]) X Y hA hcx (c_m_misses l D kc A e0 M hG hwf hpr a 1 (by decide)) (cwV 2 X.1.2.2.2.2 gX8_press_X8_misses rfl rfl rfl (by decide +kernel) ⟨Nat.le_of_ble_eq_true rfl, Nat.le_of_ble_eq_true rfl⟩) hg1 rfl rfl rfl hl.1 (Nat.le_of_ble_eq_true rfl) dX8_press_4 ⟨by decide, by decide⟩ (fun H locs Y => ?_)
    refine n_top (y := nI 1) (by unfold miN; rw [if_neg (by rw [hva]; decide)]) ?_
    refine m_Vi (As := [.int (nI 1)]) (rest := []) X Y hA hcx (c_m_fails l D kc A e0 M hG hwf hpr 1 (by decide)) (cwV 1 X.1.2.2.2.2 gX8_press_X8_fails rfl rfl rfl (by decide +kernel) ⟨Nat.le_of_ble_eq_true rfl, Nat.le_of_ble_eq_true rfl⟩) hg1 rfl rfl rfl hl.1 (Nat.le_of_ble_eq_true rfl) dX8_press_7 ⟨by decide, by decide⟩ (fun r2 M3 H locs p4 Y => ?_)
    obtain ⟨hr9, hG5⟩ := p4
    refine n_top (hr9.trans (bN_t (by decide))) ?_
    refine n_if_eq hx hb 15 (by omega) dX8_press_10 (by decide) (fun zq => absurd zq (by decide)) (fun _ => ?_)
    refine n_iconst hx hb 0 dX8_press_13 (by decide) ?_
    refine m_iret X Y hr hlocks (by decide) (by decide) ?_ dX8_press_14
    exact MC_i (c := 1) (by (simp only [sp_press, hva, Bool.and_self, Bool.and_true, Bool.and_false, Bool.false_and, Bool.true_and, Bool.false_eq_true, reduceIte]) <;> rfl) hG5
  | true =>
    obtain ⟨ja, hja, hla, rfl⟩ := vI_t hva
    refine lv_aload_n hx hb dX8_press_0 rfl (lv_at hl 0 rfl) ?_
    refine lv_aload_n hx hb dX8_press_1 rfl (lv_at hl 0 rfl) ?_
    refine lv_iload_n hx hb dX8_press_2 rfl (lv_at hl 1 rfl) ?_
    refine n_iconst hx hb 1 dX8_press_3 (by decide) ?_
    have hg6 := hG.f11 (hpr 11 (by decide))
    refine m_rVi (As := [.int (nI ja), .int (nI 1)]) (rest := [.ref (g.1 11 0)]) X Y hA hcx (c_m_misses l D kc A e0 M hG hwf hpr (nI ja) 1 (by decide)) (cwV 2 X.1.2.2.2.2 gX8_press_X8_misses rfl rfl rfl (by decide +kernel) ⟨Nat.le_of_ble_eq_true rfl, Nat.le_of_ble_eq_true rfl⟩) hg6 rfl rfl rfl hl.1 (Nat.le_of_ble_eq_true rfl) dX8_press_4 ⟨by decide, by decide⟩ (fun H locs Y => ?_)
    by_cases hst : τ.1 17 ja = 1
    · refine n_top (y := nI 0) (by unfold miN; rw [if_pos hva, ix_nI hla, if_pos hst]) ?_
      refine m_Vi (As := [.int (nI 0)]) (rest := []) X Y hA hcx (c_m_fails l D kc A e0 M hG hwf hpr 0 (by decide)) (cwV 1 X.1.2.2.2.2 gX8_press_X8_fails rfl rfl rfl (by decide +kernel) ⟨Nat.le_of_ble_eq_true rfl, Nat.le_of_ble_eq_true rfl⟩) hg6 rfl rfl rfl hl.1 (Nat.le_of_ble_eq_true rfl) dX8_press_7 ⟨by decide, by decide⟩ (fun r7 M8 H locs p9 Y => ?_)
      obtain ⟨hr9, hG10⟩ := p9
      refine n_top (hr9.trans (bN_f (by decide))) ?_
      refine n_if_eq hx hb 15 (by omega) dX8_press_10 (by decide) (fun _ => ?_) (fun zq => absurd zq (by decide))
      have hw9 := hwf.2.2.2.2.2.2.2.2 _ hja
      have hw1 := hwf.2.2.2.2.2.2.1 _ hw9.2.1
      have hw5 := hwf.2.2.2.2.1 _ hw1.1
      refine lv_aload_n hx hb dX8_press_15 rfl (lv_at hl 0 rfl) ?_
      have hg11 := hG10.f11 (hpr 11 (by decide))
      refine m_get (ref := "CardPortModel") (C := RX8) (T := TX8) (N := 25) (ci := 9) X Y htX8_press_wsX801 hg11 rfl 17 (by decide) kwX8_press_1 rfl (v := .ref (g.1 12 17)) rfl dX8_press_16 ?_
      refine lv_iload_n hx hb dX8_press_19 rfl (lv_at hl 1 rfl) ?_
      refine n_iconst hx hb 2 dX8_press_20 (by decide) ?_
      refine g_iast X Y hG10 (hpr 12 (by decide)) (k := 17) (by decide) (j := ja) (v := 2) (show ja < 60 by omega) dX8_press_21 (fun M12 H locs hG13 Y => ?_)
      have hwf2 : WS nn ((up2 τ.1 17 ja 2), τ.2) := WS_st1 hwf hja (by omega) (by decide)
      refine lv_aload_n hx hb dX8_press_22 rfl (lv_at hl 0 rfl) ?_
      refine lv_aload_n hx hb dX8_press_23 rfl (lv_at hl 0 rfl) ?_
      refine lv_aload_n hx hb dX8_press_24 rfl (lv_at hl 0 rfl) ?_
      have hg14 := hG13.f11 (hpr 11 (by decide))
      refine m_get (ref := "CardPortModel") (C := RX8) (T := TX8) (N := 25) (ci := 9) X Y htX8_press_wsX801 hg14 rfl 18 (by decide) kwX8_press_2 rfl (v := .ref (g.1 12 18)) rfl dX8_press_25 ?_
      refine lv_iload_n hx hb dX8_press_28 rfl (lv_at hl 1 rfl) ?_
      refine g_iald X Y hG13 (hpr 12 (by decide)) (k := 18) (by decide) (j := ja) (show ja < 60 by omega) (v := τ.1 18 ja) (by simp [up2]) dX8_press_29 ?_
      refine m_rVi (As := [.int (nI (τ.1 18 ja))]) (rest := [.ref (g.1 11 0)]) X Y hA hcx (c_m_shopBank l D kc A e0 M12 hG13 hwf2 hpr (τ.1 18 ja) hw9.2.1) (cwV 1 X.1.2.2.2.2 gX8_press_X8_shopBank rfl rfl rfl (by decide +kernel) ⟨Nat.le_of_ble_eq_true rfl, Nat.le_of_ble_eq_true rfl⟩) hg14 rfl rfl rfl hl.1 (Nat.le_of_ble_eq_true rfl) dX8_press_30 ⟨by decide, by decide⟩ (fun H locs Y => ?_)
      refine lv_aload_n hx hb dX8_press_33 rfl (lv_at hl 0 rfl) ?_
      refine lv_aload_n hx hb dX8_press_34 rfl (lv_at hl 0 rfl) ?_
      refine m_get (ref := "CardPortModel") (C := RX8) (T := TX8) (N := 25) (ci := 9) X Y htX8_press_wsX801 hg14 rfl 18 (by decide) kwX8_press_2 rfl (v := .ref (g.1 12 18)) rfl dX8_press_35 ?_
      refine lv_iload_n hx hb dX8_press_38 rfl (lv_at hl 1 rfl) ?_
      refine g_iald X Y hG13 (hpr 12 (by decide)) (k := 18) (by decide) (j := ja) (show ja < 60 by omega) (v := τ.1 18 ja) (by simp [up2]) dX8_press_39 ?_
      refine m_rVi (As := [.int (nI (τ.1 18 ja))]) (rest := [.int (nI (sBk τ (τ.1 18 ja))), .ref (g.1 11 0)]) X Y hA hcx (c_m_cardBank l D kc A e0 M12 hG13 hwf2 hpr (τ.1 18 ja) hw9.2.1) (cwV 1 X.1.2.2.2.2 gX8_press_X8_cardBank rfl rfl rfl (by decide +kernel) ⟨Nat.le_of_ble_eq_true rfl, Nat.le_of_ble_eq_true rfl⟩) hg14 rfl rfl rfl hl.1 (Nat.le_of_ble_eq_true rfl) dX8_press_40 ⟨by decide, by decide⟩ (fun H locs Y => ?_)
      refine lv_aload_n hx hb dX8_press_43 rfl (lv_at hl 0 rfl) ?_
      refine m_get (ref := "CardPortModel") (C := RX8) (T := TX8) (N := 25) (ci := 9) X Y htX8_press_wsX801 hg14 rfl 19 (by decide) kwX8_press_3 rfl (v := .ref (g.1 12 19)) rfl dX8_press_44 ?_
      refine lv_iload_n hx hb dX8_press_47 rfl (lv_at hl 1 rfl) ?_
      refine g_iald X Y hG13 (hpr 12 (by decide)) (k := 19) (by decide) (j := ja) (show ja < 60 by omega) (v := τ.1 19 ja) (by simp [up2]) dX8_press_48 ?_
      refine m_Vv (As := [.int (nI (sBk τ (τ.1 18 ja))), .int (nI (cBk τ (τ.1 18 ja))), .int (nI (τ.1 19 ja))]) (rest := []) X Y hA hcx (c_m_pays l D kc A e0 M12 hG13 hwf2 hpr (sBk τ (τ.1 18 ja)) (cBk τ (τ.1 18 ja)) (τ.1 19 ja) (Nat.mod_lt _ (by decide)) (div3 hw5.1) (by omega)) (cwV 3 X.1.2.2.2.2 gX8_press_X8_pays rfl rfl rfl (by decide +kernel) ⟨Nat.le_of_ble_eq_true rfl, Nat.le_of_ble_eq_true rfl⟩) hg14 rfl rfl rfl hl.1 (Nat.le_of_ble_eq_true rfl) dX8_press_49 ⟨by decide, by decide⟩ (fun M15 H locs p16 Y => ?_)
      have hG17 : G pr kc e0 σ ((up2 τ.1 17 ja 2), (payN τ.2 (sBk τ (τ.1 18 ja)) (cBk τ (τ.1 18 ja)) ((τ.1 19 ja : Nat) : Int))) (nI 0) o g M15 := p16
      obtain ⟨τ2, hτ2⟩ : ∃ zz : Sg, zz = prsS τ ja := ⟨_, rfl⟩
      have hG9 : G pr kc e0 σ τ2 (nI 0) o g M15 := by rw [hτ2]; exact hG17
      have hwf9 : WS nn τ2 := by rw [hτ2]; exact WS_st1 hwf hja (by omega) (by decide)
      have hwn9 := hwf9.2.2.2.1
      refine n_iconst hx hb 0 dX8_press_52 (by decide) ?_
      refine lv_istore_n (lv' := [(2, .int (nI 0)), (0, .ref (g.1 11 0)), (1, .int (nI ja))]) hx hb dX8_press_53 rfl hl (by decide) rfl (fun ls hl => ?_)
      refine n_iconst hx hb 0 dX8_press_54 (by decide) ?_
      refine lv_istore_n (lv' := [(3, .int (nI 0)), (2, .int (nI 0)), (0, .ref (g.1 11 0)), (1, .int (nI ja))]) hx hb dX8_press_55 rfl hl (by decide) rfl (fun ls hl => ?_)
      obtain ⟨k, hk0⟩ : ∃ k : Nat, k = 0 := ⟨_, rfl⟩
      replace hl : lv_has ls 4 [(3, .int (nI k)), (2, .int (nI (prS τ2 k))), (0, .ref (g.1 11 0)), (1, .int (nI ja))] := by
        rw [hk0]; exact hl
      replace hl : lv_has ls 4 [(0, .ref (g.1 11 0)), (1, .int (nI ja)), (2, .int (nI (prS τ2 k))), (3, .int (nI k))] := lv_sub hl [2, 3, 1, 0] rfl
      have hk : k ≤ nB τ2 := by omega
      clear hk0
      obtain ⟨fu, hfu⟩ : ∃ fu : Nat, fu = nB τ2 - k := ⟨_, rfl⟩
      induction fu generalizing k H locs ls with
      | zero =>
        obtain rfl : k = nB τ2 := by omega
        refine lv_iload_n hx hb dX8_press_56 rfl (lv_at hl 3 rfl) ?_
        refine lv_aload_n hx hb dX8_press_57 rfl (lv_at hl 0 rfl) ?_
        have hg18 := hG9.f11 (hpr 11 (by decide))
        refine m_get (ref := "CardPortModel") (C := RX8) (T := TX8) (N := 25) (ci := 9) X Y htX8_press_wsX801 hg18 rfl 16 (by decide) kwX8_press_4 rfl (v := .int (nI (nB τ2))) rfl dX8_press_58 ?_
        refine n_icmp_ge hx hb 88 (by omega) (by omega) dX8_press_61 (by decide) (fun _ => ?_) (fun zq => absurd zq (by omega))
        refine lv_iload_n hx hb dX8_press_88 rfl (lv_at hl 2 rfl) ?_
        refine m_iret X Y hr hlocks (by decide) (by decide) ?_ dX8_press_89
        subst hτ2
        exact MC_i (c := 0) (by (simp only [sp_press, hva, ix_nI hla, Bool.and_self, Bool.and_true, Bool.and_false, Bool.false_and, Bool.true_and, Bool.false_eq_true, reduceIte]; rw [if_pos hst]) <;> rfl) hG9
      | succ fu ih =>
        have hw8 := hwf9.2.2.2.2.2.2.2.2 k (by omega)
        refine lv_iload_n hx hb dX8_press_56 rfl (lv_at hl 3 rfl) ?_
        refine lv_aload_n hx hb dX8_press_57 rfl (lv_at hl 0 rfl) ?_
        have hg19 := hG9.f11 (hpr 11 (by decide))
        refine m_get (ref := "CardPortModel") (C := RX8) (T := TX8) (N := 25) (ci := 9) X Y htX8_press_wsX801 hg19 rfl 16 (by decide) kwX8_press_4 rfl (v := .int (nI (nB τ2))) rfl dX8_press_58 ?_
        refine n_icmp_ge hx hb 88 (by omega) (by omega) dX8_press_61 (by decide) (fun zq => absurd zq (by omega)) (fun _ => ?_)
        refine lv_iload_n hx hb dX8_press_64 rfl (lv_at hl 2 rfl) ?_
        refine lv_aload_n hx hb dX8_press_65 rfl (lv_at hl 0 rfl) ?_
        refine m_get (ref := "CardPortModel") (C := RX8) (T := TX8) (N := 25) (ci := 9) X Y htX8_press_wsX801 hg19 rfl 17 (by decide) kwX8_press_1 rfl (v := .ref (g.1 12 17)) rfl dX8_press_66 ?_
        refine lv_iload_n hx hb dX8_press_69 rfl (lv_at hl 3 rfl) ?_
        refine g_iald X Y hG9 (hpr 12 (by decide)) (k := 17) (by decide) (j := k) (show k < 60 by omega) (v := τ2.1 17 k) rfl dX8_press_70 ?_
        refine n_iconst hx hb 2 dX8_press_71 (by decide) ?_
        refine n_icmp_ne hx hb 79 (by omega) (by omega) dX8_press_72 (by decide) (fun c72 => ?_) (fun c72 => ?_)
        · refine n_iconst hx hb 0 dX8_press_79 (by decide) ?_
          refine n_iadd hx hb dX8_press_80 ?_
          refine lv_istore_n (lv' := [(2, .int (nI ((prS τ2 k) + 0))), (0, .ref (g.1 11 0)), (1, .int (nI ja)), (3, .int (nI k))]) hx hb dX8_press_81 rfl hl (by decide) rfl (fun ls hl => ?_)
          refine lv_iinc (v := (nI (k + 1))) (lv' := [(3, .int (nI (k + 1))), (2, .int (nI ((prS τ2 k) + 0))), (0, .ref (g.1 11 0)), (1, .int (nI ja))]) hx hb dX8_press_82 hl (k := 3) rfl (nI_add _ 1) (by decide) rfl (fun ls hl => ?_)
          refine lv_goto (tgt := 56) hx hb dX8_press_85 (by decide) ?_
          have he2 : prS τ2 (k + 1) = (prS τ2 k) + 0 := by rw [prS, if_neg c72]
          exact ih (k := k + 1) (Y := Y) (hl := by rw [he2]; exact (lv_sub hl [2, 3, 1, 0] rfl)) (hfu := by omega) (hk := by omega)
        · refine n_iconst hx hb 1 dX8_press_75 (by decide) ?_
          refine lv_goto (tgt := 80) hx hb dX8_press_76 (by decide) ?_
          refine n_iadd hx hb dX8_press_80 ?_
          refine lv_istore_n (lv' := [(2, .int (nI ((prS τ2 k) + 1))), (0, .ref (g.1 11 0)), (1, .int (nI ja)), (3, .int (nI k))]) hx hb dX8_press_81 rfl hl (by decide) rfl (fun ls hl => ?_)
          refine lv_iinc (v := (nI (k + 1))) (lv' := [(3, .int (nI (k + 1))), (2, .int (nI ((prS τ2 k) + 1))), (0, .ref (g.1 11 0)), (1, .int (nI ja))]) hx hb dX8_press_82 hl (k := 3) rfl (nI_add _ 1) (by decide) rfl (fun ls hl => ?_)
          refine lv_goto (tgt := 56) hx hb dX8_press_85 (by decide) ?_
          have he2 : prS τ2 (k + 1) = (prS τ2 k) + 1 := by rw [prS, if_pos c72]
          exact ih (k := k + 1) (Y := Y) (hl := by rw [he2]; exact (lv_sub hl [2, 3, 1, 0] rfl)) (hfu := by omega) (hk := by omega)
    · refine n_top (y := nI 2) (by unfold miN; rw [if_pos hva, ix_nI hla, if_neg hst]) ?_
      refine m_Vi (As := [.int (nI 2)]) (rest := []) X Y hA hcx (c_m_fails l D kc A e0 M hG hwf hpr 2 (by decide)) (cwV 1 X.1.2.2.2.2 gX8_press_X8_fails rfl rfl rfl (by decide +kernel) ⟨Nat.le_of_ble_eq_true rfl, Nat.le_of_ble_eq_true rfl⟩) hg6 rfl rfl rfl hl.1 (Nat.le_of_ble_eq_true rfl) dX8_press_7 ⟨by decide, by decide⟩ (fun r20 M21 H locs p22 Y => ?_)
      obtain ⟨hr9, hG23⟩ := p22
      refine n_top (hr9.trans (bN_t (by decide))) ?_
      refine n_if_eq hx hb 15 (by omega) dX8_press_10 (by decide) (fun zq => absurd zq (by decide)) (fun _ => ?_)
      refine n_iconst hx hb 0 dX8_press_13 (by decide) ?_
      refine m_iret X Y hr hlocks (by decide) (by decide) ?_ dX8_press_14
      exact MC_i (c := 2) (by (simp only [sp_press, hva, ix_nI hla, Bool.and_self, Bool.and_true, Bool.and_false, Bool.false_and, Bool.true_and, Bool.false_eq_true, reduceIte]; rw [if_neg hst]) <;> rfl) hG23
theorem kwX8_rule_1 : Cond.fieldLink RX8 50 "CardPortModel" "state" "[I" ∈ wsX8_rule := List.mem_of_getElem? (i := 1) rfl
theorem htX8_rule_wsX801 : ∀ w ∈ wsX80, w ∈ wsX8_rule := fun _ h => List.mem_cons_of_mem _ (List.mem_append_right _ h)
set_option maxHeartbeats 4000000 in
set_option maxRecDepth 100000 in
theorem c_X8_rule (l : Launch) (D : va_G) (kc : Nat → ClassId) (A : Nat → Prop) (e0 : Nat × Nat) (M : Mp) {pr : Nat → Prop} {σ τ : Sg} {th : Int32} {o : Int64} {g : Gh} {nn : Nat} (hG : G pr kc e0 σ τ th o g M) (hwf : WS nn τ) (hpr : ∀ t, t ≤ 13 → pr t) (a : Int32) (b : Bool) : Met l yX8_rule wsX8_rule ({ frames := 2, cells := 0, slots := 0, locals := 44 }) (mPre D kc A e0 M [.ref (g.1 11 0), .int a, .int (nI b.toNat)]) (va_Qi (MC pr kc e0 σ o g (sp_rule τ a b)) (mB D A) A) 0 0 A := by
  refine Met.ofW (cc := cX8_rule) (maxL := 3) (ret := (some .int)) (by decide) rfl ?_
  intro p e s m args below meth c s₁ B hml hv
  obtain ⟨rfl, hw, hK, hA, hcx⟩ := hv
  have X : mX p s m _ c cX8_rule 3 RX8 wsX8_rule D kc := ⟨⟨B.exec, B.bytes, hml, findClass_of_methodNamed B.named, atoms_spec (ws := wsX8_rule) B.pre⟩, hK⟩
  have hx := B.exec
  have hb := B.bytes
  have hr := B.returns
  have hlocks := B.notSynchronized
  have Y : mY D A M s s.heap [] := ⟨hw, va_S.rf⟩
  have hl := lv_entry ([.ref (g.1 11 0), .int a, .int (nI b.toNat)]) (n := 3) (Nat.le_of_ble_eq_true rfl)
  rw [lg_entry_eq]
  generalize (lg_sl ([.ref (g.1 11 0), .int a, .int (nI b.toNat)]) ++ List.replicate (3 - (lg_sl ([.ref (g.1 11 0), .int a, .int (nI b.toNat)])).length) Slot.unset).toArray = ls at hl ⊢
  have hl : lv_has ls 3 [(0, .ref (g.1 11 0)), (1, .int a), (2, .int (nI b.toNat))] := hl
  have hwn := hwf.2.2.2.1
  have hwd := hwf.1
  have hb9 := Bool.toNat_le b
  cases hva : vI a (nB τ) with
  | false =>
    refine lv_aload_n hx hb dX8_rule_0 rfl (lv_at hl 0 rfl) ?_
    refine lv_aload_n hx hb dX8_rule_1 rfl (lv_at hl 0 rfl) ?_
    refine lv_iload_n hx hb dX8_rule_2 rfl (lv_at hl 1 rfl) ?_
    refine n_iconst hx hb 2 dX8_rule_3 (by decide) ?_
    have hg1 := hG.f11 (hpr 11 (by decide))
    refine m_rVi (As := [.int a, .int (nI 2)]) (rest := [.ref (g.1 11 0)]) X Y hA hcx (c_m_misses l D kc A e0 M hG hwf hpr a 2 (by decide)) (cwV 2 X.1.2.2.2.2 gX8_rule_X8_misses rfl rfl rfl (by decide +kernel) ⟨Nat.le_of_ble_eq_true rfl, Nat.le_of_ble_eq_true rfl⟩) hg1 rfl rfl rfl hl.1 (Nat.le_of_ble_eq_true rfl) dX8_rule_4 ⟨by decide, by decide⟩ (fun H locs Y => ?_)
    refine n_top (y := nI 1) (by unfold miN; rw [if_neg (by rw [hva]; decide)]) ?_
    refine m_Vi (As := [.int (nI 1)]) (rest := []) X Y hA hcx (c_m_fails l D kc A e0 M hG hwf hpr 1 (by decide)) (cwV 1 X.1.2.2.2.2 gX8_rule_X8_fails rfl rfl rfl (by decide +kernel) ⟨Nat.le_of_ble_eq_true rfl, Nat.le_of_ble_eq_true rfl⟩) hg1 rfl rfl rfl hl.1 (Nat.le_of_ble_eq_true rfl) dX8_rule_7 ⟨by decide, by decide⟩ (fun r2 M3 H locs p4 Y => ?_)
    obtain ⟨hr9, hG5⟩ := p4
    refine n_top (hr9.trans (bN_t (by decide))) ?_
    refine n_if_eq hx hb 15 (by omega) dX8_rule_10 (by decide) (fun zq => absurd zq (by decide)) (fun _ => ?_)
    refine n_iconst hx hb 0 dX8_rule_13 (by decide) ?_
    refine m_iret X Y hr hlocks (by decide) (by decide) ?_ dX8_rule_14
    exact MC_i (c := 1) (by (simp only [sp_rule, hva, Bool.and_self, Bool.and_true, Bool.and_false, Bool.false_and, Bool.true_and, Bool.false_eq_true, reduceIte]) <;> rfl) hG5
  | true =>
    obtain ⟨ja, hja, hla, rfl⟩ := vI_t hva
    refine lv_aload_n hx hb dX8_rule_0 rfl (lv_at hl 0 rfl) ?_
    refine lv_aload_n hx hb dX8_rule_1 rfl (lv_at hl 0 rfl) ?_
    refine lv_iload_n hx hb dX8_rule_2 rfl (lv_at hl 1 rfl) ?_
    refine n_iconst hx hb 2 dX8_rule_3 (by decide) ?_
    have hg6 := hG.f11 (hpr 11 (by decide))
    refine m_rVi (As := [.int (nI ja), .int (nI 2)]) (rest := [.ref (g.1 11 0)]) X Y hA hcx (c_m_misses l D kc A e0 M hG hwf hpr (nI ja) 2 (by decide)) (cwV 2 X.1.2.2.2.2 gX8_rule_X8_misses rfl rfl rfl (by decide +kernel) ⟨Nat.le_of_ble_eq_true rfl, Nat.le_of_ble_eq_true rfl⟩) hg6 rfl rfl rfl hl.1 (Nat.le_of_ble_eq_true rfl) dX8_rule_4 ⟨by decide, by decide⟩ (fun H locs Y => ?_)
    by_cases hst : τ.1 17 ja = 2
    · refine n_top (y := nI 0) (by unfold miN; rw [if_pos hva, ix_nI hla, if_pos hst]) ?_
      refine m_Vi (As := [.int (nI 0)]) (rest := []) X Y hA hcx (c_m_fails l D kc A e0 M hG hwf hpr 0 (by decide)) (cwV 1 X.1.2.2.2.2 gX8_rule_X8_fails rfl rfl rfl (by decide +kernel) ⟨Nat.le_of_ble_eq_true rfl, Nat.le_of_ble_eq_true rfl⟩) hg6 rfl rfl rfl hl.1 (Nat.le_of_ble_eq_true rfl) dX8_rule_7 ⟨by decide, by decide⟩ (fun r7 M8 H locs p9 Y => ?_)
      obtain ⟨hr9, hG10⟩ := p9
      refine n_top (hr9.trans (bN_f (by decide))) ?_
      refine n_if_eq hx hb 15 (by omega) dX8_rule_10 (by decide) (fun _ => ?_) (fun zq => absurd zq (by decide))
      have hw9 := hwf.2.2.2.2.2.2.2.2 _ hja
      have hw1 := hwf.2.2.2.2.2.2.1 _ hw9.2.1
      have hw5 := hwf.2.2.2.2.1 _ hw1.1
      refine lv_aload_n hx hb dX8_rule_15 rfl (lv_at hl 0 rfl) ?_
      have hg11 := hG10.f11 (hpr 11 (by decide))
      refine m_get (ref := "CardPortModel") (C := RX8) (T := TX8) (N := 25) (ci := 9) X Y htX8_rule_wsX801 hg11 rfl 17 (by decide) kwX8_rule_1 rfl (v := .ref (g.1 12 17)) rfl dX8_rule_16 ?_
      refine lv_iload_n hx hb dX8_rule_19 rfl (lv_at hl 1 rfl) ?_
      refine lv_iload_n hx hb dX8_rule_20 rfl (lv_at hl 2 rfl) ?_
      refine n_if_eq hx hb 28 (by omega) dX8_rule_21 (by decide) (fun c21 => ?_) (fun c21 => ?_)
      · refine n_iconst hx hb 4 dX8_rule_28 (by decide) ?_
        refine g_iast X Y hG10 (hpr 12 (by decide)) (k := 17) (by decide) (j := ja) (v := 4) (show ja < 60 by omega) dX8_rule_29 (fun M12 H locs hG13 Y => ?_)
        refine lv_iload_n hx hb dX8_rule_30 rfl (lv_at hl 2 rfl) ?_
        refine n_if_ne hx hb 39 (by omega) dX8_rule_31 (by decide) (fun zq => absurd zq (by omega)) (fun _ => ?_)
        have hwf2 : WS nn ((up2 τ.1 17 ja 4), τ.2) := WS_st1 hwf hja (by omega) (by decide)
        refine lv_aload_n hx hb dX8_rule_34 rfl (lv_at hl 0 rfl) ?_
        refine lv_iload_n hx hb dX8_rule_35 rfl (lv_at hl 1 rfl) ?_
        have hg14 := hG13.f11 (hpr 11 (by decide))
        refine m_Vv (As := [.int (nI ja)]) (rest := []) X Y hA hcx (c_m_paysBack l D kc A e0 M12 hG13 hwf2 hpr ja hja) (cwV 1 X.1.2.2.2.2 gX8_rule_X8_paysBack rfl rfl rfl (by decide +kernel) ⟨Nat.le_of_ble_eq_true rfl, Nat.le_of_ble_eq_true rfl⟩) hg14 rfl rfl rfl hl.1 (Nat.le_of_ble_eq_true rfl) dX8_rule_36 ⟨by decide, by decide⟩ (fun M15 H locs p16 Y => ?_)
        have hG17 : G pr kc e0 σ ((up2 τ.1 17 ja 4), (payN τ.2 (cBk τ (τ.1 18 ja)) (sBk τ (τ.1 18 ja)) ((τ.1 19 ja : Nat) : Int))) (nI 0) o g M15 := p16
        refine lv_aload_n hx hb dX8_rule_39 rfl (lv_at hl 0 rfl) ?_
        have hg18 := hG17.f11 (hpr 11 (by decide))
        refine m_get (ref := "CardPortModel") (C := RX8) (T := TX8) (N := 25) (ci := 9) X Y htX8_rule_wsX801 hg18 rfl 17 (by decide) kwX8_rule_1 rfl (v := .ref (g.1 12 17)) rfl dX8_rule_40 ?_
        refine lv_iload_n hx hb dX8_rule_43 rfl (lv_at hl 1 rfl) ?_
        refine g_iald X Y hG17 (hpr 12 (by decide)) (k := 17) (by decide) (j := ja) (show ja < 60 by omega) (v := 4) (by simp [up2]) dX8_rule_44 ?_
        refine m_iret X Y hr hlocks (by decide) (by decide) ?_ dX8_rule_45
        have hbt : b = false := by cases b; rfl; exact absurd c21 (by decide)
        exact MC_i (c := 0) (by (simp only [sp_rule, hva, ix_nI hla, Bool.and_self, Bool.and_true, Bool.and_false, Bool.false_and, Bool.true_and, Bool.false_eq_true, reduceIte]; rw [if_pos hst, hbt]) <;> rfl) hG17
      · refine n_iconst hx hb 3 dX8_rule_24 (by decide) ?_
        refine lv_goto (tgt := 29) hx hb dX8_rule_25 (by decide) ?_
        refine g_iast X Y hG10 (hpr 12 (by decide)) (k := 17) (by decide) (j := ja) (v := 3) (show ja < 60 by omega) dX8_rule_29 (fun M19 H locs hG20 Y => ?_)
        refine lv_iload_n hx hb dX8_rule_30 rfl (lv_at hl 2 rfl) ?_
        refine n_if_ne hx hb 39 (by omega) dX8_rule_31 (by decide) (fun _ => ?_) (fun zq => absurd zq (by omega))
        refine lv_aload_n hx hb dX8_rule_39 rfl (lv_at hl 0 rfl) ?_
        have hg21 := hG20.f11 (hpr 11 (by decide))
        refine m_get (ref := "CardPortModel") (C := RX8) (T := TX8) (N := 25) (ci := 9) X Y htX8_rule_wsX801 hg21 rfl 17 (by decide) kwX8_rule_1 rfl (v := .ref (g.1 12 17)) rfl dX8_rule_40 ?_
        refine lv_iload_n hx hb dX8_rule_43 rfl (lv_at hl 1 rfl) ?_
        refine g_iald X Y hG20 (hpr 12 (by decide)) (k := 17) (by decide) (j := ja) (show ja < 60 by omega) (v := 3) (by simp [up2]) dX8_rule_44 ?_
        refine m_iret X Y hr hlocks (by decide) (by decide) ?_ dX8_rule_45
        have hbt : b = true := by cases b; exact absurd c21 (by decide); rfl
        exact MC_i (c := 0) (by (simp only [sp_rule, hva, ix_nI hla, Bool.and_self, Bool.and_true, Bool.and_false, Bool.false_and, Bool.true_and, Bool.false_eq_true, reduceIte]; rw [if_pos hst, hbt]) <;> rfl) hG20
    · refine n_top (y := nI 2) (by unfold miN; rw [if_pos hva, ix_nI hla, if_neg hst]) ?_
      refine m_Vi (As := [.int (nI 2)]) (rest := []) X Y hA hcx (c_m_fails l D kc A e0 M hG hwf hpr 2 (by decide)) (cwV 1 X.1.2.2.2.2 gX8_rule_X8_fails rfl rfl rfl (by decide +kernel) ⟨Nat.le_of_ble_eq_true rfl, Nat.le_of_ble_eq_true rfl⟩) hg6 rfl rfl rfl hl.1 (Nat.le_of_ble_eq_true rfl) dX8_rule_7 ⟨by decide, by decide⟩ (fun r22 M23 H locs p24 Y => ?_)
      obtain ⟨hr9, hG25⟩ := p24
      refine n_top (hr9.trans (bN_t (by decide))) ?_
      refine n_if_eq hx hb 15 (by omega) dX8_rule_10 (by decide) (fun zq => absurd zq (by decide)) (fun _ => ?_)
      refine n_iconst hx hb 0 dX8_rule_13 (by decide) ?_
      refine m_iret X Y hr hlocks (by decide) (by decide) ?_ dX8_rule_14
      exact MC_i (c := 2) (by (simp only [sp_rule, hva, ix_nI hla, Bool.and_self, Bool.and_true, Bool.and_false, Bool.false_and, Bool.true_and, Bool.false_eq_true, reduceIte]; rw [if_neg hst]) <;> rfl) hG25
