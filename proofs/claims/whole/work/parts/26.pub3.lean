theorem kwX7_capture_1 : Cond.constant RX7 93 (100000) ∈ wsX7_capture := List.mem_of_getElem? (i := 1) rfl
theorem kwX7_capture_2 : Cond.fieldLink RX7 40 "CardPort" "captures" "Ljava/util/List;" ∈ wsX7_capture := List.mem_of_getElem? (i := 2) rfl
theorem htX7_capture_wsX701 : ∀ w ∈ wsX70, w ∈ wsX7_capture := fun _ h => List.mem_cons_of_mem _ (List.mem_append_left _ (List.mem_append_left _ (List.mem_append_left _ (List.mem_append_left _ (List.mem_append_left _ (List.mem_append_left _ (List.mem_append_left _ (List.mem_append_left _ (List.mem_append_left _ (List.mem_append_left _ (List.mem_append_right _ h)))))))))))
theorem kwX7_capture_3 : Cond.fieldLink RX7 46 "CardPort" "day" "I" ∈ wsX7_capture := List.mem_of_getElem? (i := 3) rfl
theorem kwX7_capture_4 : Cond.classLink RX7 129 RX1 ∈ wsX7_capture := List.mem_of_getElem? (i := 4) rfl
theorem kwX7_capture_5 : Cond.instantiable RX1 5 ∈ wsX7_capture := List.mem_of_getElem? (i := 5) rfl
theorem kwX7_capture_6 : Cond.initialized RX1 ∈ wsX7_capture := List.mem_of_getElem? (i := 6) rfl
theorem htX7_capture_wsX102 : ∀ w ∈ wsX10, w ∈ wsX7_capture := fun _ h => List.mem_cons_of_mem _ (List.mem_append_left _ (List.mem_append_left _ (List.mem_append_left _ (List.mem_append_left _ (List.mem_append_left _ (List.mem_append_left _ (List.mem_append_left _ (List.mem_append_left _ (List.mem_append_left _ (List.mem_append_right _ h))))))))))
theorem kwX7_capture_7 : Cond.fieldLink RX7 131 "CardPort$Payment" "shop" "LCardPort$Shop;" ∈ wsX7_capture := List.mem_of_getElem? (i := 7) rfl
theorem htX7_capture_wsX503 : ∀ w ∈ wsX50, w ∈ wsX7_capture := fun _ h => List.mem_cons_of_mem _ (List.mem_append_left _ (List.mem_append_left _ (List.mem_append_left _ (List.mem_append_left _ (List.mem_append_left _ (List.mem_append_left _ (List.mem_append_left _ (List.mem_append_left _ (List.mem_append_right _ h)))))))))
theorem kwX7_capture_8 : Cond.fieldLink RX7 68 "CardPort$Shop" "kind" "LCardPort$Kind;" ∈ wsX7_capture := List.mem_of_getElem? (i := 8) rfl
theorem htX7_capture_wsX604 : ∀ w ∈ wsX60, w ∈ wsX7_capture := fun _ h => List.mem_cons_of_mem _ (List.mem_append_left _ (List.mem_append_left _ (List.mem_append_left _ (List.mem_append_left _ (List.mem_append_left _ (List.mem_append_left _ (List.mem_append_left _ (List.mem_append_right _ h))))))))
theorem kwX7_capture_79 : Cond.methodLink RX7 135 yX1_init ∈ wsX7_capture := List.mem_of_getElem? (i := 79) rfl
theorem kwX7_capture_80 : Cond.instanceMethod yX1_init ∈ wsX7_capture := List.mem_of_getElem? (i := 80) rfl
theorem kwX7_capture_9 : Cond.fieldLink RX7 138 "CardPort$Payment" "captured" "I" ∈ wsX7_capture := List.mem_of_getElem? (i := 9) rfl
theorem kwX7_capture_10 : Cond.fieldLink RX7 148 "CardPort$Capture" "amount" "I" ∈ wsX7_capture := List.mem_of_getElem? (i := 10) rfl
theorem kwX7_capture_11 : Cond.fieldLink RX7 151 "CardPort$Capture" "fee" "I" ∈ wsX7_capture := List.mem_of_getElem? (i := 11) rfl
theorem kwX7_capture_12 : Cond.fieldLink RX7 158 "CardPort$Capture" "number" "I" ∈ wsX7_capture := List.mem_of_getElem? (i := 12) rfl
set_option maxHeartbeats 4000000 in
set_option maxRecDepth 100000 in
theorem c_X7_capture (l : Launch) (hlt : l.stackTraces = false) (D : va_G) (kc : Nat → ClassId) (A : Nat → Prop) (e0 : Nat × Nat) (M : Mp) {pr : Nat → Prop} {σ τ : Sg} {th : Int32} {o : Int64} {g : Gh} {nn : Nat} (hG : G pr kc e0 σ τ th o g M) (hwf : WS nn σ) (hpr : ∀ t, t ≤ 10 → pr t) (a b : Int32) : vx_Met l yX7_capture wsX7_capture ({ frames := 8, cells := 12, slots := 320, locals := 300 }) (mPre D kc A e0 M [.ref (g.1 7 0), .int a, .int b]) (va_Qi (PC pr kc e0 τ th o g (sp_capture σ a b)) (mB D A) A) (mXC D A (xP M [1, 2, 3] (sp_capture σ a b).1)) 12 320 A := by
  refine vx_ofW (cc := cX7_capture) (maxL := 5) (ret := (some .int)) (by decide) rfl ?_
  intro p e s m args below meth c s₁ B hml htab hv
  obtain ⟨rfl, hw, hK, hA, hcx⟩ := hv
  have X : mX p s m _ c cX7_capture 5 RX7 wsX7_capture D kc := ⟨⟨B.exec, B.bytes, hml, findClass_of_methodNamed B.named, atoms_spec (ws := wsX7_capture) B.pre⟩, hK⟩
  have hx := B.exec
  have hb := B.bytes
  have hr := B.returns
  have hlocks := B.notSynchronized
  have Y : mY D A M s s.heap [] := ⟨hw, va_S.rf⟩
  have hl := lv_entry ([.ref (g.1 7 0), .int a, .int b]) (n := 5) (Nat.le_of_ble_eq_true rfl)
  rw [lg_entry_eq]
  generalize (lg_sl ([.ref (g.1 7 0), .int a, .int b]) ++ List.replicate (5 - (lg_sl ([.ref (g.1 7 0), .int a, .int b])).length) Slot.unset).toArray = ls at hl ⊢
  have hl : lv_has ls 5 [(0, .ref (g.1 7 0)), (1, .int a), (2, .int b)] := hl
  have hwn := hwf.2.2.2.1
  have hwd := hwf.1
  refine lv_aload_n hx hb dX7_capture_0 rfl (lv_at hl 0 rfl) ?_
  refine lv_iload_n hx hb dX7_capture_1 rfl (lv_at hl 1 rfl) ?_
  cases hva : vI a (nP σ) with
  | false =>
    have hg1 := hG.f7 (hpr 7 (by decide))
    refine m_xVq (As := [.int a]) (rest := []) X Y hA hcx (c_paymentAt_bad l hlt D kc A e0 M hG hwf hpr a (vI_f hva (by omega))) (cwV 1 X.1.2.2.2.2 gX7_capture_X7_paymentAt rfl rfl rfl (by decide +kernel) ⟨Nat.le_of_ble_eq_true rfl, Nat.le_of_ble_eq_true rfl⟩) hg1 rfl rfl rfl hl.1 (Nat.le_of_ble_eq_true rfl) dX7_capture_2 ⟨by decide, by decide⟩ htab hlocks (by decide) (by decide) (fun u hu => xP_i (k := 0) (z := 1) (by simp only [sp_capture, hva, Bool.and_self, Bool.and_true, Bool.and_false, Bool.false_and, Bool.true_and, Bool.false_eq_true, reduceIte]) rfl hu) (fun r2 M3 H locs p4 Y => ?_)
    exact p4.elim
  | true =>
    obtain ⟨ja, hja, hla, rfl⟩ := vI_t hva
    have hia := ix_nI hla
    have hg5 := hG.f7 (hpr 7 (by decide))
    refine m_rxVq (As := [.int (nI ja)]) (rest := []) X Y hA hcx (c_paymentAt l hlt D kc A e0 M hG hwf hpr ja hja) (cwV 1 X.1.2.2.2.2 gX7_capture_X7_paymentAt rfl rfl rfl (by decide +kernel) ⟨Nat.le_of_ble_eq_true rfl, Nat.le_of_ble_eq_true rfl⟩) hg5 rfl rfl rfl hl.1 (Nat.le_of_ble_eq_true rfl) dX7_capture_2 ⟨by decide, by decide⟩ htab hlocks (by decide) (by decide) (fun u h => h.elim) (fun H locs Y => ?_)
    refine lv_astore_n (lv' := [(3, .ref (g.1 5 ja)), (0, .ref (g.1 7 0)), (1, .int (nI ja)), (2, .int b)]) hx hb dX7_capture_5 rfl hl (by decide) rfl (fun ls hl => ?_)
    refine lv_iload_n hx hb dX7_capture_6 rfl (lv_at hl 3 rfl) ?_
    refine n_iconst hx hb 1 dX7_capture_7 (by decide) ?_
    refine lv_ldc hx hb X.1.2.2.2.1 (X.1.2.2.2.2 _ kwX7_capture_1) dX7_capture_8 ?_
    refine n_top (y := nI 100000) (by decide) ?_
    cases hrb : rI b 1 100000 with
    | false =>
      refine m_xSv (As := [.int b, .int (nI 1), .int (nI 100000)]) (rest := []) X Y hA hcx (c_rr_bad l hlt D kc A e0 M b 1 100000 (rI_f hrb (by decide) (by decide))) (va_cwS 3 X.1.2.2.2.2 gX7_capture_X7_requireRange rfl rfl rfl (by decide +kernel) ⟨Nat.le_of_ble_eq_true rfl, Nat.le_of_ble_eq_true rfl⟩) rfl rfl hl.1 (Nat.le_of_ble_eq_true rfl) dX7_capture_10 ⟨by decide, by decide⟩ htab hlocks (by decide) (by decide) (fun u hu => xP_i (k := 1) (z := 2) (by simp only [sp_capture, hva, ix_nI hla, hrb, Bool.and_self, Bool.and_true, Bool.and_false, Bool.false_and, Bool.true_and, Bool.false_eq_true, reduceIte]) rfl hu) (fun M6 H locs p7 Y => ?_)
      exact p7.elim
    | true =>
      obtain ⟨jb, hab, hbb, hlb, rfl⟩ := rI_t hrb
      refine m_rxSv (As := [.int (nI jb), .int (nI 1), .int (nI 100000)]) (rest := []) X Y hA hcx (c_rr_ok l hlt D kc A e0 M jb 1 100000 hab hbb (by decide)) (va_cwS 3 X.1.2.2.2.2 gX7_capture_X7_requireRange rfl rfl rfl (by decide +kernel) ⟨Nat.le_of_ble_eq_true rfl, Nat.le_of_ble_eq_true rfl⟩) rfl rfl hl.1 (Nat.le_of_ble_eq_true rfl) dX7_capture_10 ⟨by decide, by decide⟩ htab hlocks (by decide) (by decide) (fun u h => h.elim) (fun H locs Y => ?_)
      refine lv_aload_n hx hb dX7_capture_13 rfl (lv_at hl 1 rfl) ?_
      refine m_get (ref := "CardPort") (C := RX7) (T := TX7) (N := 8) (ci := 8) X Y htX7_capture_wsX701 hg5 rfl 5 (by decide) kwX7_capture_2 rfl (v := .ref (g.1 9 1)) rfl dX7_capture_14 ?_
      have hg8 := hG.f9_1 (hpr 9 (by decide))
      refine m_rFi (As := []) (rest := []) X Y hA hcx (c_size l D kc A e0 M (g.1 9 1) (lar e0 σ g 1) (nC σ) (g.2.2.2 1) hg8) (va_cwF 0 X.1.2.2.2.2 gX7_capture_Jx4a65c_size_8abf5_f94Jx4a65c rfl rfl rfl hcx.1.2.2.2.2.2.2.1 (by decide +kernel) ⟨Nat.le_of_ble_eq_true rfl, Nat.le_of_ble_eq_true rfl⟩) hg8 rfl rfl rfl hl.1 (Nat.le_of_ble_eq_true rfl) dX7_capture_17 ⟨by decide, by decide⟩ (fun H locs Y => ?_)
      refine n_bipush hx hb 100 dX7_capture_22 (by decide) ?_
      refine n_icmp_ge hx hb 31 (by omega) (by omega) dX7_capture_24 (by decide) (fun c24 => ?_) (fun c24 => ?_)
      · refine n_iconst hx hb 0 dX7_capture_31 (by decide) ?_
        refine m_xSv (As := [.int (nI 0)]) (rest := []) X Y hA hcx (c_rp_bad l hlt D kc A e0 M ) (va_cwS 1 X.1.2.2.2.2 gX7_capture_X7_requirePossible rfl rfl rfl (by decide +kernel) ⟨Nat.le_of_ble_eq_true rfl, Nat.le_of_ble_eq_true rfl⟩) rfl rfl hl.1 (Nat.le_of_ble_eq_true rfl) dX7_capture_32 ⟨by decide, by decide⟩ htab hlocks (by decide) (by decide) (fun u hu => xP_i (k := 2) (z := 3) (by simp only [sp_capture, hva, ix_nI hla, hrb, ix_nI hlb, Bool.and_self, Bool.and_true, Bool.and_false, Bool.false_and, Bool.true_and, Bool.false_eq_true, reduceIte]; rw [if_neg (fun zq => by have z3 := zq.2.2; omega)]) rfl hu) (fun M9 H locs p10 Y => ?_)
        exact p10.elim
      · refine n_iconst hx hb 1 dX7_capture_27 (by decide) ?_
        refine lv_goto (tgt := 32) hx hb dX7_capture_28 (by decide) ?_
        refine m_rxSv (As := [.int (nI 1)]) (rest := []) X Y hA hcx (c_rp_ok l hlt D kc A e0 M ) (va_cwS 1 X.1.2.2.2.2 gX7_capture_X7_requirePossible rfl rfl rfl (by decide +kernel) ⟨Nat.le_of_ble_eq_true rfl, Nat.le_of_ble_eq_true rfl⟩) rfl rfl hl.1 (Nat.le_of_ble_eq_true rfl) dX7_capture_32 ⟨by decide, by decide⟩ htab hlocks (by decide) (by decide) (fun u h => h.elim) (fun H locs Y => ?_)
        refine lv_aload_n hx hb dX7_capture_35 rfl (lv_at hl 0 rfl) ?_
        refine lv_aload_n hx hb dX7_capture_36 rfl (lv_at hl 1 rfl) ?_
        refine m_get (ref := "CardPort") (C := RX7) (T := TX7) (N := 8) (ci := 8) X Y htX7_capture_wsX701 hg5 rfl 7 (by decide) kwX7_capture_3 rfl (v := .int (nI (tD σ))) rfl dX7_capture_37 ?_
        have hg11 := hG.f5 (hpr 5 (by decide)) hja
        have hw12 := hwf.2.2.2.2.1 _ hja
        refine m_rVi (As := [.int (nI (tD σ))]) (rest := []) X Y hA hcx (c_X5_isAlive l D kc A e0 M (g.1 5 ja) (g.1 2 (σ.1 5 ja)) (g.1 6 (σ.1 6 ja)) (σ.1 7 ja) (σ.1 9 ja) (σ.1 8 ja) (σ.1 10 ja) (nI ja) (tD σ) hg11 (by omega) (by omega) (by omega)) (cwV 1 X.1.2.2.2.2 gX7_capture_X5_isAlive rfl rfl rfl (by decide +kernel) ⟨Nat.le_of_ble_eq_true rfl, Nat.le_of_ble_eq_true rfl⟩) hg11 rfl rfl rfl hl.1 (Nat.le_of_ble_eq_true rfl) dX7_capture_40 ⟨by decide, by decide⟩ (fun H locs Y => ?_)
        by_cases hal : σ.1 10 ja = 0 ∧ tD σ ≤ σ.1 9 ja
        · refine n_top (bN_t hal) ?_
          refine n_if_eq hx hb 58 (by omega) dX7_capture_43 (by decide) (fun zq => absurd zq (by decide)) (fun _ => ?_)
          refine lv_iload_n hx hb dX7_capture_46 rfl (lv_at hl 3 rfl) ?_
          refine lv_aload_n hx hb dX7_capture_47 rfl (lv_at hl 0 rfl) ?_
          refine m_rVi (As := []) (rest := [.int (nI jb)]) X Y hA hcx (c_X5_left l D kc A e0 M (g.1 5 ja) (g.1 2 (σ.1 5 ja)) (g.1 6 (σ.1 6 ja)) (σ.1 7 ja) (σ.1 9 ja) (σ.1 8 ja) (σ.1 10 ja) (nI ja) hg11 (by omega)) (cwV 0 X.1.2.2.2.2 gX7_capture_X5_left rfl rfl rfl (by decide +kernel) ⟨Nat.le_of_ble_eq_true rfl, Nat.le_of_ble_eq_true rfl⟩) hg11 rfl rfl rfl hl.1 (Nat.le_of_ble_eq_true rfl) dX7_capture_48 ⟨by decide, by decide⟩ (fun H locs Y => ?_)
          refine n_icmp_gt hx hb 58 (by omega) (by omega) dX7_capture_51 (by decide) (fun c51 => ?_) (fun c51 => ?_)
          · refine n_iconst hx hb 0 dX7_capture_58 (by decide) ?_
            refine m_xSv (As := [.int (nI 0)]) (rest := []) X Y hA hcx (c_rp_bad l hlt D kc A e0 M ) (va_cwS 1 X.1.2.2.2.2 gX7_capture_X7_requirePossible rfl rfl rfl (by decide +kernel) ⟨Nat.le_of_ble_eq_true rfl, Nat.le_of_ble_eq_true rfl⟩) rfl rfl hl.1 (Nat.le_of_ble_eq_true rfl) dX7_capture_59 ⟨by decide, by decide⟩ htab hlocks (by decide) (by decide) (fun u hu => xP_i (k := 2) (z := 3) (by simp only [sp_capture, hva, ix_nI hla, hrb, ix_nI hlb, Bool.and_self, Bool.and_true, Bool.and_false, Bool.false_and, Bool.true_and, Bool.false_eq_true, reduceIte]; rw [if_neg (fun zq => by have z3 := zq.2.1; omega)]) rfl hu) (fun M13 H locs p14 Y => ?_)
            exact p14.elim
          · refine n_iconst hx hb 1 dX7_capture_54 (by decide) ?_
            refine lv_goto (tgt := 59) hx hb dX7_capture_55 (by decide) ?_
            refine m_rxSv (As := [.int (nI 1)]) (rest := []) X Y hA hcx (c_rp_ok l hlt D kc A e0 M ) (va_cwS 1 X.1.2.2.2.2 gX7_capture_X7_requirePossible rfl rfl rfl (by decide +kernel) ⟨Nat.le_of_ble_eq_true rfl, Nat.le_of_ble_eq_true rfl⟩) rfl rfl hl.1 (Nat.le_of_ble_eq_true rfl) dX7_capture_59 ⟨by decide, by decide⟩ htab hlocks (by decide) (by decide) (fun u h => h.elim) (fun H locs Y => ?_)
            have hg15 := hG.f6 (hpr 6 (by decide)) (hwf.2.2.2.2.1 _ hja).2.1
            have hg16 := hG.f4 (hpr 4 (by decide)) (hwf.2.1 (σ.1 6 ja))
            have hw17 := hwf.2.2.1 (σ.1 1 (σ.1 6 ja))
            have hcx9 : alive σ ja ∧ σ.1 8 ja + jb ≤ σ.1 7 ja ∧ nC σ < 100 := ⟨hal, by omega, by omega⟩
            refine m_new (C := RX1) (T := TX1) (N := 5) (ci := 2) X Y hA htX7_capture_wsX102 tyX1 tyX1_ok kwX7_capture_4 kwX7_capture_5 kwX7_capture_6 rfl (fs := [.int 0, .null, .int 0, .int 0, .int 0]) (fun j hj => by rcases (show j = 0 ∨ j = 1 ∨ j = 2 ∨ j = 3 ∨ j = 4 by omega) with rfl | rfl | rfl | rfl | rfl <;> rfl) (by decide) (by decide) dX7_capture_62 (fun q18 H fq18 Y => ?_)
            obtain ⟨M19, eM19⟩ : ∃ zz9 : Mp, zz9 = mu M q18 (.inr (2, [.int 0, .null, .int 0, .int 0, .int 0])) := ⟨_, rfl⟩
            replace Y : mY D A M19 s H locs := by rw [eM19]; exact Y
            have hh20 : M19 (g.1 7 0) = some (.inr (8, [.ref (g.1 8 0), .ref (g.1 8 1), .ref (g.1 8 2), .ref (g.1 8 3), .ref (g.1 9 0), .ref (g.1 9 1), .ref (g.1 9 2), .int (nI (tD σ))])) := by rw [eM19, mu_ne _ _ (ne_fresh hg5 fq18)]; exact hg5
            have hh21 : M19 (g.1 9 1) = some (.inr (0, [.int (g.2.2.2 1), .ref (lar e0 σ g 1), .int (nI (nC σ))])) := by rw [eM19, mu_ne _ _ (ne_fresh hg8 fq18)]; exact hg8
            have hh22 : M19 (g.1 5 ja) = some (.inr (6, [.int (nI ja), .ref (g.1 2 (σ.1 5 ja)), .ref (g.1 6 (σ.1 6 ja)), .int (nI (σ.1 7 ja)), .int (nI (σ.1 9 ja)), .int (nI (σ.1 8 ja)), .int (nI (σ.1 10 ja))])) := by rw [eM19, mu_ne _ _ (ne_fresh hg11 fq18)]; exact hg11
            have hh23 : M19 (g.1 6 (σ.1 6 ja)) = some (.inr (7, [.int (nI (σ.1 6 ja)), .ref (g.1 0 ((σ.1 6 ja) % 4)), .ref (g.1 4 (σ.1 1 (σ.1 6 ja)))])) := by rw [eM19, mu_ne _ _ (ne_fresh hg15 fq18)]; exact hg15
            have hh24 : M19 (g.1 4 (σ.1 1 (σ.1 6 ja))) = some (.inr (5, [.int (nI (σ.1 1 (σ.1 6 ja))), .int (nI (σ.1 2 (σ.1 1 (σ.1 6 ja)))), .int (nI (σ.1 3 (σ.1 1 (σ.1 6 ja))))])) := by rw [eM19, mu_ne _ _ (ne_fresh hg16 fq18)]; exact hg16
            have hh25 : M19 q18 = some (.inr (2, [.int 0, .null, .int 0, .int 0, .int 0])) := by rw [eM19]; exact mu_self _ _ _
            refine lv_dup hx hb dX7_capture_65 rfl ?_
            refine lv_aload_n hx hb dX7_capture_66 rfl (lv_at hl 1 rfl) ?_
            refine m_get (ref := "CardPort") (C := RX7) (T := TX7) (N := 8) (ci := 8) X Y htX7_capture_wsX701 hh20 rfl 5 (by decide) kwX7_capture_2 rfl (v := .ref (g.1 9 1)) rfl dX7_capture_67 ?_
            refine m_rFi (As := []) (rest := [.ref q18, .ref q18]) X Y hA hcx (c_size l D kc A e0 M19 (g.1 9 1) (lar e0 σ g 1) (nC σ) (g.2.2.2 1) hh21) (va_cwF 0 X.1.2.2.2.2 gX7_capture_Jx4a65c_size_8abf5_f94Jx4a65c rfl rfl rfl hcx.1.2.2.2.2.2.2.1 (by decide +kernel) ⟨Nat.le_of_ble_eq_true rfl, Nat.le_of_ble_eq_true rfl⟩) hh21 rfl rfl rfl hl.1 (Nat.le_of_ble_eq_true rfl) dX7_capture_70 ⟨by decide, by decide⟩ (fun H locs Y => ?_)
            refine lv_aload_n hx hb dX7_capture_75 rfl (lv_at hl 0 rfl) ?_
            refine lv_iload_n hx hb dX7_capture_76 rfl (lv_at hl 3 rfl) ?_
            refine lv_aload_n hx hb dX7_capture_77 rfl (lv_at hl 0 rfl) ?_
            refine m_get (ref := "CardPort$Payment") (C := RX5) (T := TX5) (N := 7) (ci := 6) X Y htX7_capture_wsX503 hh22 rfl 2 (by decide) kwX7_capture_7 rfl (v := .ref (g.1 6 (σ.1 6 ja))) rfl dX7_capture_78 ?_
            refine m_get (ref := "CardPort$Shop") (C := RX6) (T := TX6) (N := 3) (ci := 7) X Y htX7_capture_wsX604 hh23 rfl 2 (by decide) kwX7_capture_8 rfl (v := .ref (g.1 4 (σ.1 1 (σ.1 6 ja)))) rfl dX7_capture_81 ?_
            refine lv_iload_n hx hb dX7_capture_84 rfl (lv_at hl 3 rfl) ?_
            have hmul : jb * σ.1 2 (σ.1 1 (σ.1 6 ja)) ≤ 100000 * 100 := Nat.mul_le_mul (by omega) (hwf.2.2.1 _).1
            have hfe : cfeN σ ja jb ≤ jb := feeN_le _ _ _ (hwf.2.2.1 _).1
            refine m_rVi (As := [.int (nI jb)]) (rest := [.int (nI jb), .ref (g.1 5 ja), .int (nI (nC σ)), .ref q18, .ref q18]) X Y hA hcx (c_X4_feeOf l D kc A e0 M19 (g.1 4 (σ.1 1 (σ.1 6 ja))) (σ.1 2 (σ.1 1 (σ.1 6 ja))) (σ.1 3 (σ.1 1 (σ.1 6 ja))) jb (nI (σ.1 1 (σ.1 6 ja))) hh24 (by omega) (by omega)) (cwV 1 X.1.2.2.2.2 gX7_capture_X4_feeOf rfl rfl rfl (by decide +kernel) ⟨Nat.le_of_ble_eq_true rfl, Nat.le_of_ble_eq_true rfl⟩) hh24 rfl rfl rfl hl.1 (Nat.le_of_ble_eq_true rfl) dX7_capture_85 ⟨by decide, by decide⟩ (fun H locs Y => ?_)
            refine m_Iv (As := [.int (nI (nC σ)), .ref (g.1 5 ja), .int (nI jb), .int (nI (cfeN σ ja jb))]) (rest := [.ref q18]) X Y hA hcx (c_X1_init l D kc A e0 M19 q18 (nC σ) (g.1 5 ja) jb (cfeN σ ja jb) 0 0 0 0 hh25) (cwI 4 X.1.2.2.2.2 gX7_capture_X1_init rfl rfl rfl (X.1.2.2.2.2 _ kwX7_capture_6) (X.1.2.2.2.2 _ kwX7_capture_79) (X.1.2.2.2.2 _ kwX7_capture_80) rfl (by decide +kernel) ⟨Nat.le_of_ble_eq_true rfl, Nat.le_of_ble_eq_true rfl⟩) rfl rfl hl.1 (Nat.le_of_ble_eq_true rfl) dX7_capture_88 ⟨by decide, by decide⟩ (fun M26 H locs p27 Y => ?_)
            have hh28 : M26 (g.1 7 0) = some (.inr (8, [.ref (g.1 8 0), .ref (g.1 8 1), .ref (g.1 8 2), .ref (g.1 8 3), .ref (g.1 9 0), .ref (g.1 9 1), .ref (g.1 9 2), .int (nI (tD σ))])) := by rw [p27, mu_ne _ _ (ne_fresh hg5 fq18)]; exact hh20
            have hh29 : M26 (g.1 9 1) = some (.inr (0, [.int (g.2.2.2 1), .ref (lar e0 σ g 1), .int (nI (nC σ))])) := by rw [p27, mu_ne _ _ (ne_fresh hg8 fq18)]; exact hh21
            have hh30 : M26 (g.1 5 ja) = some (.inr (6, [.int (nI ja), .ref (g.1 2 (σ.1 5 ja)), .ref (g.1 6 (σ.1 6 ja)), .int (nI (σ.1 7 ja)), .int (nI (σ.1 9 ja)), .int (nI (σ.1 8 ja)), .int (nI (σ.1 10 ja))])) := by rw [p27, mu_ne _ _ (ne_fresh hg11 fq18)]; exact hh22
            have hh31 : M26 (g.1 6 (σ.1 6 ja)) = some (.inr (7, [.int (nI (σ.1 6 ja)), .ref (g.1 0 ((σ.1 6 ja) % 4)), .ref (g.1 4 (σ.1 1 (σ.1 6 ja)))])) := by rw [p27, mu_ne _ _ (ne_fresh hg15 fq18)]; exact hh23
            have hh32 : M26 (g.1 4 (σ.1 1 (σ.1 6 ja))) = some (.inr (5, [.int (nI (σ.1 1 (σ.1 6 ja))), .int (nI (σ.1 2 (σ.1 1 (σ.1 6 ja)))), .int (nI (σ.1 3 (σ.1 1 (σ.1 6 ja))))])) := by rw [p27, mu_ne _ _ (ne_fresh hg16 fq18)]; exact hh24
            have hh33 : M26 q18 = some (.inr (2, [.int (nI (nC σ)), .ref (g.1 5 ja), .int (nI jb), .int (nI (cfeN σ ja jb)), .int (nI 0)])) := by rw [p27]; exact mu_self _ _ _
            have p27q : M26 = mu M q18 (.inr (2, [.int (nI (nC σ)), .ref (g.1 5 ja), .int (nI jb), .int (nI (cfeN σ ja jb)), .int (nI 0)])) := by rw [p27, eM19, mu_mu]
            refine lv_astore (lv' := [(4, .ref q18), (3, .ref (g.1 5 ja)), (0, .ref (g.1 7 0)), (1, .int (nI ja)), (2, .int (nI jb))]) hx hb dX7_capture_91 hl (by decide) rfl (fun ls hl => ?_)
            refine lv_aload_n hx hb dX7_capture_93 rfl (lv_at hl 2 rfl) ?_
            refine m_get (ref := "CardPort") (C := RX7) (T := TX7) (N := 8) (ci := 8) X Y htX7_capture_wsX701 hh28 rfl 5 (by decide) kwX7_capture_2 rfl (v := .ref (g.1 9 1)) rfl dX7_capture_94 ?_
            refine lv_aload hx hb dX7_capture_97 (lv_at hl 0 rfl) ?_
            refine m_Fi (As := [.ref q18]) (rest := []) X Y hA hcx (c_add l D kc A e0 M26 2 _ _ _ rfl (by decide) (g.1 9 1) (lar e0 σ g 1) (nC σ) (g.2.1 1) q18 _ (g.2.2.2 1) (g.2.2.1 1) hh29 hh33 (by decide) (by rw [p27q]; exact lsOk_new (hG.ls1 (hpr 9 (by decide)) (hpr 10 (by decide)) (hpr 1 (by decide)) (by omega)) fq18)) (va_cwF 1 X.1.2.2.2.2 gX7_capture_Jx4a65c_add_9ea2d_f113Jx4a65c rfl rfl rfl hcx.1.2.2.2.2.2.2.2.2.1 (by decide +kernel) ⟨Nat.le_of_ble_eq_true rfl, Nat.le_of_ble_eq_true rfl⟩) hh29 rfl rfl rfl hl.1 (Nat.le_of_ble_eq_true rfl) dX7_capture_99 ⟨by decide, by decide⟩ (fun r34 M35 H locs p36 Y => ?_)
            have had := p36.2
            rw [p27q] at had
            obtain ⟨g', hkg, hag, hgx, hG9⟩ := hG.growC hwf hpr fq18 hja had
            replace hl : lv_has ls 5 [(4, .ref (g'.1 1 (nC σ))), (3, .ref (g'.1 5 ja)), (0, .ref (g'.1 7 0)), (1, .int (nI ja)), (2, .int (nI jb))] := by
              rw [hkg 7 0 (by decide) (by decide) (by decide) (by decide), hag 5 ja (by decide) (fun z => absurd z.1 (by decide)), hgx]; exact hl
            have fk37 : M35 (g'.1 5 ja) = some (.inr (6, [.int (nI ja), .ref (g'.1 2 (σ.1 5 ja)), .ref (g'.1 6 (σ.1 6 ja)), .int (nI (σ.1 7 ja)), .int (nI (σ.1 9 ja)), .int (nI (σ.1 8 ja)), .int (nI (σ.1 10 ja))])) := hG9.f5 (hpr 5 (by decide)) hja
            have h0c := hwf.2.2.2.2.2.2.2.1 (nC σ) (Nat.le_refl _)
            have fk38 : M35 (g'.1 1 (nC σ)) = some (.inr (2, [.int (nI (nC σ)), .ref (g'.1 5 ja), .int (nI jb), .int (nI (cfeN σ ja jb)), .int (nI 0)])) := by have z9 := hG9.f1 (hpr 1 (by decide)) (i := nC σ) (show nC σ < nC σ + 1 by omega); simpa [up2, h0c] using z9
            have hw5 := hwf.2.2.2.2.1 _ hja
            have hd3 := div3 hw5.1
            have fk39 : M35 (g'.1 2 (σ.1 5 ja)) = some (.inr (3, [.int (nI (σ.1 5 ja)), .ref (g'.1 0 (σ.1 5 ja / 3))])) := hG9.f2 (hpr 2 (by decide)) hw5.1
            have fk40 : M35 (g'.1 6 (σ.1 6 ja)) = some (.inr (7, [.int (nI (σ.1 6 ja)), .ref (g'.1 0 (σ.1 6 ja % 4)), .ref (g'.1 4 (σ.1 1 (σ.1 6 ja)))])) := hG9.f6 (hpr 6 (by decide)) hw5.2.1
            have fk41 : M35 (g'.1 0 (σ.1 5 ja / 3)) = some (.inr (1, [.long (lI (σ.2 0 (σ.1 5 ja / 3))), .long (lI (σ.2 1 (σ.1 5 ja / 3)))])) := hG9.f0 (hpr 0 (by decide)) hd3
            have fk42 : M35 (g'.1 0 (σ.1 6 ja % 4)) = some (.inr (1, [.long (lI (σ.2 0 (σ.1 6 ja % 4))), .long (lI (σ.2 1 (σ.1 6 ja % 4)))])) := hG9.f0 (hpr 0 (by decide)) (Nat.mod_lt _ (by decide))
            refine lv_pop hx hb dX7_capture_104 rfl ?_
            refine lv_aload_n hx hb dX7_capture_105 rfl (lv_at hl 1 rfl) ?_
            refine lv_dup hx hb dX7_capture_106 rfl ?_
            refine m_get (ref := "CardPort$Payment") (C := RX5) (T := TX5) (N := 7) (ci := 6) X Y htX7_capture_wsX503 fk37 rfl 5 (by decide) kwX7_capture_9 rfl (v := .int (nI (σ.1 8 ja))) rfl dX7_capture_107 ?_
            refine lv_iload_n hx hb dX7_capture_110 rfl (lv_at hl 4 rfl) ?_
            refine n_iadd hx hb dX7_capture_111 ?_
            refine m_put (ref := "CardPort$Payment") (C := RX5) (T := TX5) (N := 7) (ci := 6) X Y htX7_capture_wsX503 tyX5 tyX5_ok nmX5 fk37 rfl 5 (by decide) kwX7_capture_9 rfl rfl (v := .int (nI ((σ.1 8 ja) + jb))) rfl rfl (Nat.le_of_ble_eq_true rfl) dX7_capture_112 (fun H locs Y => ?_)
            obtain ⟨M43, eM43⟩ : ∃ zz9 : Mp, zz9 = mu M35 (g'.1 5 ja) (.inr (6, [.int (nI ja), .ref (g'.1 2 (σ.1 5 ja)), .ref (g'.1 6 (σ.1 6 ja)), .int (nI (σ.1 7 ja)), .int (nI (σ.1 9 ja)), .int (nI ((σ.1 8 ja) + jb)), .int (nI (σ.1 10 ja))])) := ⟨_, rfl⟩
            replace Y : mY D A M43 s H locs := by rw [eM43]; exact Y
            have hh44 : M43 (g'.1 1 (nC σ)) = some (.inr (2, [.int (nI (nC σ)), .ref (g'.1 5 ja), .int (nI jb), .int (nI (cfeN σ ja jb)), .int (nI 0)])) := by rw [eM43, mu_ne _ _ (hG9.ne ⟨hpr 1 (by decide), (show nC σ < nC σ + 1 by omega)⟩ ⟨hpr 5 (by decide), hja⟩ (fun zq => absurd zq.1 (by decide)))]; exact fk38
            have hh45 : M43 (g'.1 2 (σ.1 5 ja)) = some (.inr (3, [.int (nI (σ.1 5 ja)), .ref (g'.1 0 (σ.1 5 ja / 3))])) := by rw [eM43, mu_ne _ _ (hG9.ne ⟨hpr 2 (by decide), hw5.1⟩ ⟨hpr 5 (by decide), hja⟩ (fun zq => absurd zq.1 (by decide)))]; exact fk39
            have hh46 : M43 (g'.1 6 (σ.1 6 ja)) = some (.inr (7, [.int (nI (σ.1 6 ja)), .ref (g'.1 0 (σ.1 6 ja % 4)), .ref (g'.1 4 (σ.1 1 (σ.1 6 ja)))])) := by rw [eM43, mu_ne _ _ (hG9.ne ⟨hpr 6 (by decide), hw5.2.1⟩ ⟨hpr 5 (by decide), hja⟩ (fun zq => absurd zq.1 (by decide)))]; exact fk40
            have hh47 : M43 (g'.1 0 (σ.1 5 ja / 3)) = some (.inr (1, [.long (lI (σ.2 0 (σ.1 5 ja / 3))), .long (lI (σ.2 1 (σ.1 5 ja / 3)))])) := by rw [eM43, mu_ne _ _ (hG9.ne ⟨hpr 0 (by decide), hd3⟩ ⟨hpr 5 (by decide), hja⟩ (fun zq => absurd zq.1 (by decide)))]; exact fk41
            have hh48 : M43 (g'.1 0 (σ.1 6 ja % 4)) = some (.inr (1, [.long (lI (σ.2 0 (σ.1 6 ja % 4))), .long (lI (σ.2 1 (σ.1 6 ja % 4)))])) := by rw [eM43, mu_ne _ _ (hG9.ne ⟨hpr 0 (by decide), (Nat.mod_lt _ (by decide))⟩ ⟨hpr 5 (by decide), hja⟩ (fun zq => absurd zq.1 (by decide)))]; exact fk42
            have hh49 : M43 (g'.1 5 ja) = some (.inr (6, [.int (nI ja), .ref (g'.1 2 (σ.1 5 ja)), .ref (g'.1 6 (σ.1 6 ja)), .int (nI (σ.1 7 ja)), .int (nI (σ.1 9 ja)), .int (nI ((σ.1 8 ja) + jb)), .int (nI (σ.1 10 ja))])) := by rw [eM43]; exact mu_self _ _ _
            refine lv_aload hx hb dX7_capture_115 (lv_at hl 0 rfl) ?_
            refine m_rVq (As := []) (rest := []) X Y hA hcx (c_X1_cardBank l D kc A e0 M43 (g'.1 1 (nC σ)) (g'.1 5 ja) (g'.1 2 (σ.1 5 ja)) (g'.1 6 (σ.1 6 ja)) (g'.1 0 (σ.1 5 ja / 3)) jb (cfeN σ ja jb) 0 (σ.1 7 ja) (σ.1 9 ja) ((σ.1 8 ja) + jb) (σ.1 10 ja) (nI (nC σ)) (nI ja) (nI (σ.1 5 ja)) hh44 hh49 hh45) (cwV 0 X.1.2.2.2.2 gX7_capture_X1_cardBank rfl rfl rfl (by decide +kernel) ⟨Nat.le_of_ble_eq_true rfl, Nat.le_of_ble_eq_true rfl⟩) hh44 rfl rfl rfl hl.1 (Nat.le_of_ble_eq_true rfl) dX7_capture_117 ⟨by decide, by decide⟩ (fun H locs Y => ?_)
            refine lv_aload hx hb dX7_capture_120 (lv_at hl 0 rfl) ?_
            refine m_rVq (As := []) (rest := [.ref (g'.1 0 (σ.1 5 ja / 3))]) X Y hA hcx (c_X1_shopBank l D kc A e0 M43 (g'.1 1 (nC σ)) (g'.1 5 ja) (g'.1 2 (σ.1 5 ja)) (g'.1 6 (σ.1 6 ja)) (g'.1 0 (σ.1 6 ja % 4)) (g'.1 4 (σ.1 1 (σ.1 6 ja))) jb (cfeN σ ja jb) 0 (σ.1 7 ja) (σ.1 9 ja) ((σ.1 8 ja) + jb) (σ.1 10 ja) (nI (nC σ)) (nI ja) (nI (σ.1 6 ja)) hh44 hh49 hh46) (cwV 0 X.1.2.2.2.2 gX7_capture_X1_shopBank rfl rfl rfl (by decide +kernel) ⟨Nat.le_of_ble_eq_true rfl, Nat.le_of_ble_eq_true rfl⟩) hh44 rfl rfl rfl hl.1 (Nat.le_of_ble_eq_true rfl) dX7_capture_122 ⟨by decide, by decide⟩ (fun H locs Y => ?_)
            refine lv_aload hx hb dX7_capture_125 (lv_at hl 0 rfl) ?_
            refine m_get (ref := "CardPort$Capture") (C := RX1) (T := TX1) (N := 5) (ci := 2) X Y htX7_capture_wsX102 hh44 rfl 2 (by decide) kwX7_capture_10 rfl (v := .int (nI jb)) rfl dX7_capture_127 ?_
            refine lv_aload hx hb dX7_capture_130 (lv_at hl 0 rfl) ?_
            refine m_get (ref := "CardPort$Capture") (C := RX1) (T := TX1) (N := 5) (ci := 2) X Y htX7_capture_wsX102 hh44 rfl 3 (by decide) kwX7_capture_11 rfl (v := .int (nI (cfeN σ ja jb))) rfl dX7_capture_132 ?_
            refine n_isub hx hb (by omega) dX7_capture_135 ?_
            refine m_Vv (As := [.ref (g'.1 0 (σ.1 6 ja % 4)), .int (nI (jb - (cfeN σ ja jb)))]) (rest := []) X Y hA hcx (c_X0_pay l D kc A e0 M43 (g'.1 0 (σ.1 5 ja / 3)) (g'.1 0 (σ.1 6 ja % 4)) (lI (σ.2 0 (σ.1 5 ja / 3))) (lI (σ.2 1 (σ.1 5 ja / 3))) (lI (σ.2 0 (σ.1 6 ja % 4))) (lI (σ.2 1 (σ.1 6 ja % 4))) (nI (jb - (cfeN σ ja jb))) hh47 hh48) (cwV 2 X.1.2.2.2.2 gX7_capture_X0_pay rfl rfl rfl (by decide +kernel) ⟨Nat.le_of_ble_eq_true rfl, Nat.le_of_ble_eq_true rfl⟩) hh47 rfl rfl rfl hl.1 (Nat.le_of_ble_eq_true rfl) dX7_capture_136 ⟨by decide, by decide⟩ (fun M50 H locs p51 Y => ?_)
            have hG8 := ((hG9.setPk (hpr 5 (by decide)) (i := ja) (v := σ.1 8 ja + jb) hja).pay (hpr 0 (by decide)) (a := σ.1 5 ja / 3) (b := σ.1 6 ja % 4) (v := jb - cfeN σ ja jb) hd3 (Nat.mod_lt _ (by decide)) (by omega)).fees (σ.1 21 0 + cfeN σ ja jb)
            replace hG8 : G pr kc e0 (addCap σ ja jb) τ th o g' M50 := by rw [addCap_eq σ ja jb hfe, p51, eM43]; exact hG8
            have fk52 : M50 (g'.1 1 (nC σ)) = some (.inr (2, [.int (nI (nC σ)), .ref (g'.1 5 ((addCap σ ja jb).1 12 (nC σ))), .int (nI ((addCap σ ja jb).1 13 (nC σ))), .int (nI ((addCap σ ja jb).1 14 (nC σ))), .int (nI ((addCap σ ja jb).1 15 (nC σ)))])) := hG8.f1 (hpr 1 (by decide)) (show nC σ < nC σ + 1 by omega)
            refine lv_aload hx hb dX7_capture_139 (lv_at hl 0 rfl) ?_
            refine m_get (ref := "CardPort$Capture") (C := RX1) (T := TX1) (N := 5) (ci := 2) X Y htX7_capture_wsX102 fk52 rfl 0 (by decide) kwX7_capture_12 rfl (v := .int (nI (nC σ))) rfl dX7_capture_141 ?_
            refine vx_ret (m_iret X Y hr hlocks (by decide) (by decide) ?_ dX7_capture_144)
            exact PC_i (by simp only [sp_capture, hva, ix_nI hla, hrb, ix_nI hlb, Bool.and_self, Bool.and_true, Bool.and_false, Bool.false_and, Bool.true_and, Bool.false_eq_true, reduceIte]; rw [if_pos hcx9]) hkg hG8
        · refine n_top (bN_f hal) ?_
          refine n_if_eq hx hb 58 (by omega) dX7_capture_43 (by decide) (fun _ => ?_) (fun zq => absurd zq (by decide))
          refine n_iconst hx hb 0 dX7_capture_58 (by decide) ?_
          refine m_xSv (As := [.int (nI 0)]) (rest := []) X Y hA hcx (c_rp_bad l hlt D kc A e0 M ) (va_cwS 1 X.1.2.2.2.2 gX7_capture_X7_requirePossible rfl rfl rfl (by decide +kernel) ⟨Nat.le_of_ble_eq_true rfl, Nat.le_of_ble_eq_true rfl⟩) rfl rfl hl.1 (Nat.le_of_ble_eq_true rfl) dX7_capture_59 ⟨by decide, by decide⟩ htab hlocks (by decide) (by decide) (fun u hu => xP_i (k := 2) (z := 3) (by simp only [sp_capture, hva, ix_nI hla, hrb, ix_nI hlb, Bool.and_self, Bool.and_true, Bool.and_false, Bool.false_and, Bool.true_and, Bool.false_eq_true, reduceIte]; rw [if_neg (fun zq => hal zq.1)]) rfl hu) (fun M53 H locs p54 Y => ?_)
          exact p54.elim
theorem kwX7_refund_1 : Cond.constant RX7 93 (100000) ∈ wsX7_refund := List.mem_of_getElem? (i := 1) rfl
theorem kwX7_refund_2 : Cond.fieldLink RX7 148 "CardPort$Capture" "amount" "I" ∈ wsX7_refund := List.mem_of_getElem? (i := 2) rfl
theorem htX7_refund_wsX101 : ∀ w ∈ wsX10, w ∈ wsX7_refund := fun _ h => List.mem_cons_of_mem _ (List.mem_append_left _ (List.mem_append_left _ (List.mem_append_left _ (List.mem_append_left _ (List.mem_append_left _ (List.mem_append_left _ (List.mem_append_left _ (List.mem_append_left _ (List.mem_append_left _ (List.mem_append_left _ (List.mem_append_right _ h)))))))))))
theorem kwX7_refund_3 : Cond.fieldLink RX7 171 "CardPort$Capture" "refunded" "I" ∈ wsX7_refund := List.mem_of_getElem? (i := 3) rfl
set_option maxHeartbeats 4000000 in
set_option maxRecDepth 100000 in
theorem c_X7_refund (l : Launch) (hlt : l.stackTraces = false) (D : va_G) (kc : Nat → ClassId) (A : Nat → Prop) (e0 : Nat × Nat) (M : Mp) {pr : Nat → Prop} {σ τ : Sg} {th : Int32} {o : Int64} {g : Gh} {nn : Nat} (hG : G pr kc e0 σ τ th o g M) (hwf : WS nn σ) (hpr : ∀ t, t ≤ 10 → pr t) (a b : Int32) : vx_Met l yX7_refund wsX7_refund ({ frames := 8, cells := 12, slots := 320, locals := 300 }) (mPre D kc A e0 M [.ref (g.1 7 0), .int a, .int b]) (va_Qi (PC pr kc e0 τ th o g (sp_refund σ a b)) (mB D A) A) (mXC D A (xP M [1, 2, 3] (sp_refund σ a b).1)) 12 320 A := by
  refine vx_ofW (cc := cX7_refund) (maxL := 4) (ret := (some .int)) (by decide) rfl ?_
  intro p e s m args below meth c s₁ B hml htab hv
  obtain ⟨rfl, hw, hK, hA, hcx⟩ := hv
  have X : mX p s m _ c cX7_refund 4 RX7 wsX7_refund D kc := ⟨⟨B.exec, B.bytes, hml, findClass_of_methodNamed B.named, atoms_spec (ws := wsX7_refund) B.pre⟩, hK⟩
  have hx := B.exec
  have hb := B.bytes
  have hr := B.returns
  have hlocks := B.notSynchronized
  have Y : mY D A M s s.heap [] := ⟨hw, va_S.rf⟩
  have hl := lv_entry ([.ref (g.1 7 0), .int a, .int b]) (n := 4) (Nat.le_of_ble_eq_true rfl)
  rw [lg_entry_eq]
  generalize (lg_sl ([.ref (g.1 7 0), .int a, .int b]) ++ List.replicate (4 - (lg_sl ([.ref (g.1 7 0), .int a, .int b])).length) Slot.unset).toArray = ls at hl ⊢
  have hl : lv_has ls 4 [(0, .ref (g.1 7 0)), (1, .int a), (2, .int b)] := hl
  have hwn := hwf.2.2.2.1
  have hwd := hwf.1
  refine lv_aload_n hx hb dX7_refund_0 rfl (lv_at hl 0 rfl) ?_
  refine lv_iload_n hx hb dX7_refund_1 rfl (lv_at hl 1 rfl) ?_
  cases hva : vI a (nC σ) with
  | false =>
    have hg1 := hG.f7 (hpr 7 (by decide))
    refine m_xVq (As := [.int a]) (rest := []) X Y hA hcx (c_captureAt_bad l hlt D kc A e0 M hG hwf hpr a (vI_f hva (by omega))) (cwV 1 X.1.2.2.2.2 gX7_refund_X7_captureAt rfl rfl rfl (by decide +kernel) ⟨Nat.le_of_ble_eq_true rfl, Nat.le_of_ble_eq_true rfl⟩) hg1 rfl rfl rfl hl.1 (Nat.le_of_ble_eq_true rfl) dX7_refund_2 ⟨by decide, by decide⟩ htab hlocks (by decide) (by decide) (fun u hu => xP_i (k := 0) (z := 1) (by simp only [sp_refund, hva, Bool.and_self, Bool.and_true, Bool.and_false, Bool.false_and, Bool.true_and, Bool.false_eq_true, reduceIte]) rfl hu) (fun r2 M3 H locs p4 Y => ?_)
    exact p4.elim
  | true =>
    obtain ⟨ja, hja, hla, rfl⟩ := vI_t hva
    have hia := ix_nI hla
    have hg5 := hG.f7 (hpr 7 (by decide))
    refine m_rxVq (As := [.int (nI ja)]) (rest := []) X Y hA hcx (c_captureAt l hlt D kc A e0 M hG hwf hpr ja hja) (cwV 1 X.1.2.2.2.2 gX7_refund_X7_captureAt rfl rfl rfl (by decide +kernel) ⟨Nat.le_of_ble_eq_true rfl, Nat.le_of_ble_eq_true rfl⟩) hg5 rfl rfl rfl hl.1 (Nat.le_of_ble_eq_true rfl) dX7_refund_2 ⟨by decide, by decide⟩ htab hlocks (by decide) (by decide) (fun u h => h.elim) (fun H locs Y => ?_)
    refine lv_astore_n (lv' := [(3, .ref (g.1 1 ja)), (0, .ref (g.1 7 0)), (1, .int (nI ja)), (2, .int b)]) hx hb dX7_refund_5 rfl hl (by decide) rfl (fun ls hl => ?_)
    refine lv_iload_n hx hb dX7_refund_6 rfl (lv_at hl 3 rfl) ?_
    refine n_iconst hx hb 1 dX7_refund_7 (by decide) ?_
    refine lv_ldc hx hb X.1.2.2.2.1 (X.1.2.2.2.2 _ kwX7_refund_1) dX7_refund_8 ?_
    refine n_top (y := nI 100000) (by decide) ?_
    cases hrb : rI b 1 100000 with
    | false =>
      refine m_xSv (As := [.int b, .int (nI 1), .int (nI 100000)]) (rest := []) X Y hA hcx (c_rr_bad l hlt D kc A e0 M b 1 100000 (rI_f hrb (by decide) (by decide))) (va_cwS 3 X.1.2.2.2.2 gX7_refund_X7_requireRange rfl rfl rfl (by decide +kernel) ⟨Nat.le_of_ble_eq_true rfl, Nat.le_of_ble_eq_true rfl⟩) rfl rfl hl.1 (Nat.le_of_ble_eq_true rfl) dX7_refund_10 ⟨by decide, by decide⟩ htab hlocks (by decide) (by decide) (fun u hu => xP_i (k := 1) (z := 2) (by simp only [sp_refund, hva, ix_nI hla, hrb, Bool.and_self, Bool.and_true, Bool.and_false, Bool.false_and, Bool.true_and, Bool.false_eq_true, reduceIte]) rfl hu) (fun M6 H locs p7 Y => ?_)
      exact p7.elim
    | true =>
      obtain ⟨jb, hab, hbb, hlb, rfl⟩ := rI_t hrb
      refine m_rxSv (As := [.int (nI jb), .int (nI 1), .int (nI 100000)]) (rest := []) X Y hA hcx (c_rr_ok l hlt D kc A e0 M jb 1 100000 hab hbb (by decide)) (va_cwS 3 X.1.2.2.2.2 gX7_refund_X7_requireRange rfl rfl rfl (by decide +kernel) ⟨Nat.le_of_ble_eq_true rfl, Nat.le_of_ble_eq_true rfl⟩) rfl rfl hl.1 (Nat.le_of_ble_eq_true rfl) dX7_refund_10 ⟨by decide, by decide⟩ htab hlocks (by decide) (by decide) (fun u h => h.elim) (fun H locs Y => ?_)
      refine lv_iload_n hx hb dX7_refund_13 rfl (lv_at hl 3 rfl) ?_
      refine lv_aload_n hx hb dX7_refund_14 rfl (lv_at hl 0 rfl) ?_
      have hg8 := hG.f1 (hpr 1 (by decide)) hja
      have hw9 := hwf.2.2.2.2.2.2.1 _ hja
      refine m_get (ref := "CardPort$Capture") (C := RX1) (T := TX1) (N := 5) (ci := 2) X Y htX7_refund_wsX101 hg8 rfl 2 (by decide) kwX7_refund_2 rfl (v := .int (nI (σ.1 13 ja))) rfl dX7_refund_15 ?_
      refine lv_aload_n hx hb dX7_refund_18 rfl (lv_at hl 1 rfl) ?_
      refine lv_aload_n hx hb dX7_refund_19 rfl (lv_at hl 0 rfl) ?_
      refine m_rVi (As := [.ref (g.1 1 ja)]) (rest := [.int (nI (σ.1 13 ja)), .int (nI jb)]) X Y hA hcx (c_gb l D kc A e0 M hG hwf hpr ja hja) (cwV 1 X.1.2.2.2.2 gX7_refund_X7_givenBackOf rfl rfl rfl (by decide +kernel) ⟨Nat.le_of_ble_eq_true rfl, Nat.le_of_ble_eq_true rfl⟩) hg5 rfl rfl rfl hl.1 (Nat.le_of_ble_eq_true rfl) dX7_refund_20 ⟨by decide, by decide⟩ (fun H locs Y => ?_)
      refine n_isub hx hb (by omega) dX7_refund_23 ?_
      refine n_icmp_gt hx hb 31 (by omega) (by omega) dX7_refund_24 (by decide) (fun c24 => ?_) (fun c24 => ?_)
      · refine n_iconst hx hb 0 dX7_refund_31 (by decide) ?_
        refine m_xSv (As := [.int (nI 0)]) (rest := []) X Y hA hcx (c_rp_bad l hlt D kc A e0 M ) (va_cwS 1 X.1.2.2.2.2 gX7_refund_X7_requirePossible rfl rfl rfl (by decide +kernel) ⟨Nat.le_of_ble_eq_true rfl, Nat.le_of_ble_eq_true rfl⟩) rfl rfl hl.1 (Nat.le_of_ble_eq_true rfl) dX7_refund_32 ⟨by decide, by decide⟩ htab hlocks (by decide) (by decide) (fun u hu => xP_i (k := 2) (z := 3) (by simp only [sp_refund, hva, ix_nI hla, hrb, ix_nI hlb, Bool.and_self, Bool.and_true, Bool.and_false, Bool.false_and, Bool.true_and, Bool.false_eq_true, reduceIte]; rw [if_neg (by omega)]) rfl hu) (fun M10 H locs p11 Y => ?_)
        exact p11.elim
      · refine n_iconst hx hb 1 dX7_refund_27 (by decide) ?_
        refine lv_goto (tgt := 32) hx hb dX7_refund_28 (by decide) ?_
        refine m_rxSv (As := [.int (nI 1)]) (rest := []) X Y hA hcx (c_rp_ok l hlt D kc A e0 M ) (va_cwS 1 X.1.2.2.2.2 gX7_refund_X7_requirePossible rfl rfl rfl (by decide +kernel) ⟨Nat.le_of_ble_eq_true rfl, Nat.le_of_ble_eq_true rfl⟩) rfl rfl hl.1 (Nat.le_of_ble_eq_true rfl) dX7_refund_32 ⟨by decide, by decide⟩ htab hlocks (by decide) (by decide) (fun u h => h.elim) (fun H locs Y => ?_)
        have hg12 := hG.f5 (hpr 5 (by decide)) (hwf.2.2.2.2.2.2.1 _ hja).1
        have hw13 := hwf.2.2.2.2.1 _ (hwf.2.2.2.2.2.2.1 _ hja).1
        have hg14 := hG.f2 (hpr 2 (by decide)) (hwf.2.2.2.2.1 _ (hwf.2.2.2.2.2.2.1 _ hja).1).1
        have hg15 := hG.f6 (hpr 6 (by decide)) (hwf.2.2.2.2.1 _ (hwf.2.2.2.2.2.2.1 _ hja).1).2.1
        have hg16 := hG.f0 (hpr 0 (by decide)) (div3 (hwf.2.2.2.2.1 _ (hwf.2.2.2.2.2.2.1 _ hja).1).1)
        have hg17 := hG.f0 (hpr 0 (by decide)) (Nat.mod_lt (σ.1 6 (σ.1 12 ja)) (by decide))
        have hrf9 : jb + gb σ ja ≤ σ.1 13 ja := by omega
        refine lv_aload_n hx hb dX7_refund_35 rfl (lv_at hl 0 rfl) ?_
        refine lv_dup hx hb dX7_refund_36 rfl ?_
        refine m_get (ref := "CardPort$Capture") (C := RX1) (T := TX1) (N := 5) (ci := 2) X Y htX7_refund_wsX101 hg8 rfl 4 (by decide) kwX7_refund_3 rfl (v := .int (nI (σ.1 15 ja))) rfl dX7_refund_37 ?_
        refine lv_iload_n hx hb dX7_refund_40 rfl (lv_at hl 3 rfl) ?_
        refine n_iadd hx hb dX7_refund_41 ?_
        refine m_put (ref := "CardPort$Capture") (C := RX1) (T := TX1) (N := 5) (ci := 2) X Y htX7_refund_wsX101 tyX1 tyX1_ok nmX1 hg8 rfl 4 (by decide) kwX7_refund_3 rfl rfl (v := .int (nI ((σ.1 15 ja) + jb))) rfl rfl (Nat.le_of_ble_eq_true rfl) dX7_refund_42 (fun H locs Y => ?_)
        obtain ⟨M18, eM18⟩ : ∃ zz9 : Mp, zz9 = mu M (g.1 1 ja) (.inr (2, [.int (nI ja), .ref (g.1 5 (σ.1 12 ja)), .int (nI (σ.1 13 ja)), .int (nI (σ.1 14 ja)), .int (nI ((σ.1 15 ja) + jb))])) := ⟨_, rfl⟩
        replace Y : mY D A M18 s H locs := by rw [eM18]; exact Y
        have hh19 : M18 (g.1 7 0) = some (.inr (8, [.ref (g.1 8 0), .ref (g.1 8 1), .ref (g.1 8 2), .ref (g.1 8 3), .ref (g.1 9 0), .ref (g.1 9 1), .ref (g.1 9 2), .int (nI (tD σ))])) := by rw [eM18, mu_ne _ _ (hG.ne ⟨hpr 7 (by decide), rfl⟩ ⟨hpr 1 (by decide), hja⟩ (fun zq => absurd zq.1 (by decide)))]; exact hg5
        have hh20 : M18 (g.1 5 (σ.1 12 ja)) = some (.inr (6, [.int (nI (σ.1 12 ja)), .ref (g.1 2 (σ.1 5 (σ.1 12 ja))), .ref (g.1 6 (σ.1 6 (σ.1 12 ja))), .int (nI (σ.1 7 (σ.1 12 ja))), .int (nI (σ.1 9 (σ.1 12 ja))), .int (nI (σ.1 8 (σ.1 12 ja))), .int (nI (σ.1 10 (σ.1 12 ja)))])) := by rw [eM18, mu_ne _ _ (hG.ne ⟨hpr 5 (by decide), (hwf.2.2.2.2.2.2.1 _ hja).1⟩ ⟨hpr 1 (by decide), hja⟩ (fun zq => absurd zq.1 (by decide)))]; exact hg12
        have hh21 : M18 (g.1 2 (σ.1 5 (σ.1 12 ja))) = some (.inr (3, [.int (nI (σ.1 5 (σ.1 12 ja))), .ref (g.1 0 ((σ.1 5 (σ.1 12 ja)) / 3))])) := by rw [eM18, mu_ne _ _ (hG.ne ⟨hpr 2 (by decide), (hwf.2.2.2.2.1 _ (hwf.2.2.2.2.2.2.1 _ hja).1).1⟩ ⟨hpr 1 (by decide), hja⟩ (fun zq => absurd zq.1 (by decide)))]; exact hg14
        have hh22 : M18 (g.1 6 (σ.1 6 (σ.1 12 ja))) = some (.inr (7, [.int (nI (σ.1 6 (σ.1 12 ja))), .ref (g.1 0 ((σ.1 6 (σ.1 12 ja)) % 4)), .ref (g.1 4 (σ.1 1 (σ.1 6 (σ.1 12 ja))))])) := by rw [eM18, mu_ne _ _ (hG.ne ⟨hpr 6 (by decide), (hwf.2.2.2.2.1 _ (hwf.2.2.2.2.2.2.1 _ hja).1).2.1⟩ ⟨hpr 1 (by decide), hja⟩ (fun zq => absurd zq.1 (by decide)))]; exact hg15
        have hh23 : M18 (g.1 0 ((σ.1 5 (σ.1 12 ja)) / 3)) = some (.inr (1, [.long (lI (σ.2 0 ((σ.1 5 (σ.1 12 ja)) / 3))), .long (lI (σ.2 1 ((σ.1 5 (σ.1 12 ja)) / 3)))])) := by rw [eM18, mu_ne _ _ (hG.ne ⟨hpr 0 (by decide), (div3 (hwf.2.2.2.2.1 _ (hwf.2.2.2.2.2.2.1 _ hja).1).1)⟩ ⟨hpr 1 (by decide), hja⟩ (fun zq => absurd zq.1 (by decide)))]; exact hg16
        have hh24 : M18 (g.1 0 ((σ.1 6 (σ.1 12 ja)) % 4)) = some (.inr (1, [.long (lI (σ.2 0 ((σ.1 6 (σ.1 12 ja)) % 4))), .long (lI (σ.2 1 ((σ.1 6 (σ.1 12 ja)) % 4)))])) := by rw [eM18, mu_ne _ _ (hG.ne ⟨hpr 0 (by decide), (Nat.mod_lt (σ.1 6 (σ.1 12 ja)) (by decide))⟩ ⟨hpr 1 (by decide), hja⟩ (fun zq => absurd zq.1 (by decide)))]; exact hg17
        have hh25 : M18 (g.1 1 ja) = some (.inr (2, [.int (nI ja), .ref (g.1 5 (σ.1 12 ja)), .int (nI (σ.1 13 ja)), .int (nI (σ.1 14 ja)), .int (nI ((σ.1 15 ja) + jb))])) := by rw [eM18]; exact mu_self _ _ _
        refine lv_aload_n hx hb dX7_refund_45 rfl (lv_at hl 0 rfl) ?_
        refine m_rVq (As := []) (rest := []) X Y hA hcx (c_X1_shopBank l D kc A e0 M18 (g.1 1 ja) (g.1 5 (σ.1 12 ja)) (g.1 2 (σ.1 5 (σ.1 12 ja))) (g.1 6 (σ.1 6 (σ.1 12 ja))) (g.1 0 ((σ.1 6 (σ.1 12 ja)) % 4)) (g.1 4 (σ.1 1 (σ.1 6 (σ.1 12 ja)))) (σ.1 13 ja) (σ.1 14 ja) ((σ.1 15 ja) + jb) (σ.1 7 (σ.1 12 ja)) (σ.1 9 (σ.1 12 ja)) (σ.1 8 (σ.1 12 ja)) (σ.1 10 (σ.1 12 ja)) (nI ja) (nI (σ.1 12 ja)) (nI (σ.1 6 (σ.1 12 ja))) hh25 hh20 hh22) (cwV 0 X.1.2.2.2.2 gX7_refund_X1_shopBank rfl rfl rfl (by decide +kernel) ⟨Nat.le_of_ble_eq_true rfl, Nat.le_of_ble_eq_true rfl⟩) hh25 rfl rfl rfl hl.1 (Nat.le_of_ble_eq_true rfl) dX7_refund_46 ⟨by decide, by decide⟩ (fun H locs Y => ?_)
        refine lv_aload_n hx hb dX7_refund_49 rfl (lv_at hl 0 rfl) ?_
        refine m_rVq (As := []) (rest := [.ref (g.1 0 ((σ.1 6 (σ.1 12 ja)) % 4))]) X Y hA hcx (c_X1_cardBank l D kc A e0 M18 (g.1 1 ja) (g.1 5 (σ.1 12 ja)) (g.1 2 (σ.1 5 (σ.1 12 ja))) (g.1 6 (σ.1 6 (σ.1 12 ja))) (g.1 0 ((σ.1 5 (σ.1 12 ja)) / 3)) (σ.1 13 ja) (σ.1 14 ja) ((σ.1 15 ja) + jb) (σ.1 7 (σ.1 12 ja)) (σ.1 9 (σ.1 12 ja)) (σ.1 8 (σ.1 12 ja)) (σ.1 10 (σ.1 12 ja)) (nI ja) (nI (σ.1 12 ja)) (nI (σ.1 5 (σ.1 12 ja))) hh25 hh20 hh21) (cwV 0 X.1.2.2.2.2 gX7_refund_X1_cardBank rfl rfl rfl (by decide +kernel) ⟨Nat.le_of_ble_eq_true rfl, Nat.le_of_ble_eq_true rfl⟩) hh25 rfl rfl rfl hl.1 (Nat.le_of_ble_eq_true rfl) dX7_refund_50 ⟨by decide, by decide⟩ (fun H locs Y => ?_)
        refine lv_iload_n hx hb dX7_refund_53 rfl (lv_at hl 3 rfl) ?_
        refine m_Vv (As := [.ref (g.1 0 ((σ.1 5 (σ.1 12 ja)) / 3)), .int (nI jb)]) (rest := []) X Y hA hcx (c_X0_pay l D kc A e0 M18 (g.1 0 ((σ.1 6 (σ.1 12 ja)) % 4)) (g.1 0 ((σ.1 5 (σ.1 12 ja)) / 3)) (lI (σ.2 0 ((σ.1 6 (σ.1 12 ja)) % 4))) (lI (σ.2 1 ((σ.1 6 (σ.1 12 ja)) % 4))) (lI (σ.2 0 ((σ.1 5 (σ.1 12 ja)) / 3))) (lI (σ.2 1 ((σ.1 5 (σ.1 12 ja)) / 3))) (nI jb) hh24 hh23) (cwV 2 X.1.2.2.2.2 gX7_refund_X0_pay rfl rfl rfl (by decide +kernel) ⟨Nat.le_of_ble_eq_true rfl, Nat.le_of_ble_eq_true rfl⟩) hh24 rfl rfl rfl hl.1 (Nat.le_of_ble_eq_true rfl) dX7_refund_54 ⟨by decide, by decide⟩ (fun M26 H locs p27 Y => ?_)
        have hG9 := (hG.setCr (hpr 1 (by decide)) (i := ja) (v := σ.1 15 ja + jb) hja).pay (hpr 0 (by decide)) (a := sBk σ ja) (b := cBk σ ja) (v := jb) (Nat.mod_lt _ (by decide)) (div3 (hwf.2.2.2.2.1 _ (hwf.2.2.2.2.2.2.1 _ hja).1).1) (by omega)
        replace hG9 : G pr kc e0 (addRef σ ja jb) τ th o g M26 := by rw [p27, eM18]; exact hG9
        have hwf9 := WS_ref hwf hja hrf9
        refine lv_aload_n hx hb dX7_refund_57 rfl (lv_at hl 1 rfl) ?_
        refine lv_aload_n hx hb dX7_refund_58 rfl (lv_at hl 0 rfl) ?_
        have hq7 := hG9.f7 (hpr 7 (by decide))
        refine m_rVi (As := [.ref (g.1 1 ja)]) (rest := []) X Y hA hcx (c_gb l D kc A e0 M26 hG9 hwf9 hpr ja hja) (cwV 1 X.1.2.2.2.2 gX7_refund_X7_givenBackOf rfl rfl rfl (by decide +kernel) ⟨Nat.le_of_ble_eq_true rfl, Nat.le_of_ble_eq_true rfl⟩) hq7 rfl rfl rfl hl.1 (Nat.le_of_ble_eq_true rfl) dX7_refund_59 ⟨by decide, by decide⟩ (fun H locs Y => ?_)
        refine vx_ret (m_iret X Y hr hlocks (by decide) (by decide) ?_ dX7_refund_62)
        exact PC_i (by simp only [sp_refund, hva, ix_nI hla, hrb, ix_nI hlb, Bool.and_self, Bool.and_true, Bool.and_false, Bool.false_and, Bool.true_and, Bool.false_eq_true, reduceIte]; rw [if_pos hrf9]) (KG.rf g) hG9
theorem kwX7_dispute_1 : Cond.constant RX7 93 (100000) ∈ wsX7_dispute := List.mem_of_getElem? (i := 1) rfl
theorem kwX7_dispute_2 : Cond.fieldLink RX7 43 "CardPort" "chargebacks" "Ljava/util/List;" ∈ wsX7_dispute := List.mem_of_getElem? (i := 2) rfl
theorem htX7_dispute_wsX701 : ∀ w ∈ wsX70, w ∈ wsX7_dispute := fun _ h => List.mem_cons_of_mem _ (List.mem_append_left _ (List.mem_append_left _ (List.mem_append_left _ (List.mem_append_left _ (List.mem_append_left _ (List.mem_append_left _ (List.mem_append_left _ (List.mem_append_left _ (List.mem_append_left _ (List.mem_append_left _ (List.mem_append_right _ h)))))))))))
theorem kwX7_dispute_3 : Cond.fieldLink RX7 148 "CardPort$Capture" "amount" "I" ∈ wsX7_dispute := List.mem_of_getElem? (i := 3) rfl
theorem htX7_dispute_wsX102 : ∀ w ∈ wsX10, w ∈ wsX7_dispute := fun _ h => List.mem_cons_of_mem _ (List.mem_append_left _ (List.mem_append_left _ (List.mem_append_left _ (List.mem_append_left _ (List.mem_append_left _ (List.mem_append_left _ (List.mem_append_left _ (List.mem_append_left _ (List.mem_append_left _ (List.mem_append_right _ h))))))))))
theorem kwX7_dispute_4 : Cond.classLink RX7 174 RX3 ∈ wsX7_dispute := List.mem_of_getElem? (i := 4) rfl
theorem kwX7_dispute_5 : Cond.instantiable RX3 5 ∈ wsX7_dispute := List.mem_of_getElem? (i := 5) rfl
theorem kwX7_dispute_6 : Cond.initialized RX3 ∈ wsX7_dispute := List.mem_of_getElem? (i := 6) rfl
theorem htX7_dispute_wsX303 : ∀ w ∈ wsX30, w ∈ wsX7_dispute := fun _ h => List.mem_cons_of_mem _ (List.mem_append_left _ (List.mem_append_left _ (List.mem_append_left _ (List.mem_append_left _ (List.mem_append_left _ (List.mem_append_left _ (List.mem_append_left _ (List.mem_append_left _ (List.mem_append_right _ h)))))))))
theorem kwX7_dispute_7 : Cond.fieldLink RX7 46 "CardPort" "day" "I" ∈ wsX7_dispute := List.mem_of_getElem? (i := 7) rfl
theorem kwX7_dispute_60 : Cond.methodLink RX7 176 yX3_init ∈ wsX7_dispute := List.mem_of_getElem? (i := 60) rfl
theorem kwX7_dispute_61 : Cond.instanceMethod yX3_init ∈ wsX7_dispute := List.mem_of_getElem? (i := 61) rfl
theorem kwX7_dispute_8 : Cond.fieldLink RX7 179 "CardPort$Chargeback" "number" "I" ∈ wsX7_dispute := List.mem_of_getElem? (i := 8) rfl
set_option maxHeartbeats 4000000 in
set_option maxRecDepth 100000 in
theorem c_X7_dispute (l : Launch) (hlt : l.stackTraces = false) (D : va_G) (kc : Nat → ClassId) (A : Nat → Prop) (e0 : Nat × Nat) (M : Mp) {pr : Nat → Prop} {σ τ : Sg} {th : Int32} {o : Int64} {g : Gh} {nn : Nat} (hG : G pr kc e0 σ τ th o g M) (hwf : WS nn σ) (hpr : ∀ t, t ≤ 10 → pr t) (a b : Int32) : vx_Met l yX7_dispute wsX7_dispute ({ frames := 8, cells := 12, slots := 320, locals := 300 }) (mPre D kc A e0 M [.ref (g.1 7 0), .int a, .int b]) (va_Qi (PC pr kc e0 τ th o g (sp_dispute σ a b)) (mB D A) A) (mXC D A (xP M [1, 2, 3] (sp_dispute σ a b).1)) 12 320 A := by
  refine vx_ofW (cc := cX7_dispute) (maxL := 5) (ret := (some .int)) (by decide) rfl ?_
  intro p e s m args below meth c s₁ B hml htab hv
  obtain ⟨rfl, hw, hK, hA, hcx⟩ := hv
  have X : mX p s m _ c cX7_dispute 5 RX7 wsX7_dispute D kc := ⟨⟨B.exec, B.bytes, hml, findClass_of_methodNamed B.named, atoms_spec (ws := wsX7_dispute) B.pre⟩, hK⟩
  have hx := B.exec
  have hb := B.bytes
  have hr := B.returns
  have hlocks := B.notSynchronized
  have Y : mY D A M s s.heap [] := ⟨hw, va_S.rf⟩
  have hl := lv_entry ([.ref (g.1 7 0), .int a, .int b]) (n := 5) (Nat.le_of_ble_eq_true rfl)
  rw [lg_entry_eq]
  generalize (lg_sl ([.ref (g.1 7 0), .int a, .int b]) ++ List.replicate (5 - (lg_sl ([.ref (g.1 7 0), .int a, .int b])).length) Slot.unset).toArray = ls at hl ⊢
  have hl : lv_has ls 5 [(0, .ref (g.1 7 0)), (1, .int a), (2, .int b)] := hl
  have hwn := hwf.2.2.2.1
  have hwd := hwf.1
  refine lv_aload_n hx hb dX7_dispute_0 rfl (lv_at hl 0 rfl) ?_
  refine lv_iload_n hx hb dX7_dispute_1 rfl (lv_at hl 1 rfl) ?_
  cases hva : vI a (nC σ) with
  | false =>
    have hg1 := hG.f7 (hpr 7 (by decide))
    refine m_xVq (As := [.int a]) (rest := []) X Y hA hcx (c_captureAt_bad l hlt D kc A e0 M hG hwf hpr a (vI_f hva (by omega))) (cwV 1 X.1.2.2.2.2 gX7_dispute_X7_captureAt rfl rfl rfl (by decide +kernel) ⟨Nat.le_of_ble_eq_true rfl, Nat.le_of_ble_eq_true rfl⟩) hg1 rfl rfl rfl hl.1 (Nat.le_of_ble_eq_true rfl) dX7_dispute_2 ⟨by decide, by decide⟩ htab hlocks (by decide) (by decide) (fun u hu => xP_i (k := 0) (z := 1) (by simp only [sp_dispute, hva, Bool.and_self, Bool.and_true, Bool.and_false, Bool.false_and, Bool.true_and, Bool.false_eq_true, reduceIte]) rfl hu) (fun r2 M3 H locs p4 Y => ?_)
    exact p4.elim
  | true =>
    obtain ⟨ja, hja, hla, rfl⟩ := vI_t hva
    have hia := ix_nI hla
    have hg5 := hG.f7 (hpr 7 (by decide))
    refine m_rxVq (As := [.int (nI ja)]) (rest := []) X Y hA hcx (c_captureAt l hlt D kc A e0 M hG hwf hpr ja hja) (cwV 1 X.1.2.2.2.2 gX7_dispute_X7_captureAt rfl rfl rfl (by decide +kernel) ⟨Nat.le_of_ble_eq_true rfl, Nat.le_of_ble_eq_true rfl⟩) hg5 rfl rfl rfl hl.1 (Nat.le_of_ble_eq_true rfl) dX7_dispute_2 ⟨by decide, by decide⟩ htab hlocks (by decide) (by decide) (fun u h => h.elim) (fun H locs Y => ?_)
    refine lv_astore_n (lv' := [(3, .ref (g.1 1 ja)), (0, .ref (g.1 7 0)), (1, .int (nI ja)), (2, .int b)]) hx hb dX7_dispute_5 rfl hl (by decide) rfl (fun ls hl => ?_)
    refine lv_iload_n hx hb dX7_dispute_6 rfl (lv_at hl 3 rfl) ?_
    refine n_iconst hx hb 1 dX7_dispute_7 (by decide) ?_
    refine lv_ldc hx hb X.1.2.2.2.1 (X.1.2.2.2.2 _ kwX7_dispute_1) dX7_dispute_8 ?_
    refine n_top (y := nI 100000) (by decide) ?_
    cases hrb : rI b 1 100000 with
    | false =>
      refine m_xSv (As := [.int b, .int (nI 1), .int (nI 100000)]) (rest := []) X Y hA hcx (c_rr_bad l hlt D kc A e0 M b 1 100000 (rI_f hrb (by decide) (by decide))) (va_cwS 3 X.1.2.2.2.2 gX7_dispute_X7_requireRange rfl rfl rfl (by decide +kernel) ⟨Nat.le_of_ble_eq_true rfl, Nat.le_of_ble_eq_true rfl⟩) rfl rfl hl.1 (Nat.le_of_ble_eq_true rfl) dX7_dispute_10 ⟨by decide, by decide⟩ htab hlocks (by decide) (by decide) (fun u hu => xP_i (k := 1) (z := 2) (by simp only [sp_dispute, hva, ix_nI hla, hrb, Bool.and_self, Bool.and_true, Bool.and_false, Bool.false_and, Bool.true_and, Bool.false_eq_true, reduceIte]) rfl hu) (fun M6 H locs p7 Y => ?_)
      exact p7.elim
    | true =>
      obtain ⟨jb, hab, hbb, hlb, rfl⟩ := rI_t hrb
      refine m_rxSv (As := [.int (nI jb), .int (nI 1), .int (nI 100000)]) (rest := []) X Y hA hcx (c_rr_ok l hlt D kc A e0 M jb 1 100000 hab hbb (by decide)) (va_cwS 3 X.1.2.2.2.2 gX7_dispute_X7_requireRange rfl rfl rfl (by decide +kernel) ⟨Nat.le_of_ble_eq_true rfl, Nat.le_of_ble_eq_true rfl⟩) rfl rfl hl.1 (Nat.le_of_ble_eq_true rfl) dX7_dispute_10 ⟨by decide, by decide⟩ htab hlocks (by decide) (by decide) (fun u h => h.elim) (fun H locs Y => ?_)
      refine lv_aload_n hx hb dX7_dispute_13 rfl (lv_at hl 1 rfl) ?_
      refine m_get (ref := "CardPort") (C := RX7) (T := TX7) (N := 8) (ci := 8) X Y htX7_dispute_wsX701 hg5 rfl 6 (by decide) kwX7_dispute_2 rfl (v := .ref (g.1 9 2)) rfl dX7_dispute_14 ?_
      have hg8 := hG.f9_2 (hpr 9 (by decide))
      refine m_rFi (As := []) (rest := []) X Y hA hcx (c_size l D kc A e0 M (g.1 9 2) (lar e0 σ g 2) (nB σ) (g.2.2.2 2) hg8) (va_cwF 0 X.1.2.2.2.2 gX7_dispute_Jx4a65c_size_8abf5_f94Jx4a65c rfl rfl rfl hcx.1.2.2.2.2.2.2.1 (by decide +kernel) ⟨Nat.le_of_ble_eq_true rfl, Nat.le_of_ble_eq_true rfl⟩) hg8 rfl rfl rfl hl.1 (Nat.le_of_ble_eq_true rfl) dX7_dispute_17 ⟨by decide, by decide⟩ (fun H locs Y => ?_)
      refine n_bipush hx hb 60 dX7_dispute_22 (by decide) ?_
      refine n_icmp_ge hx hb 31 (by omega) (by omega) dX7_dispute_24 (by decide) (fun c24 => ?_) (fun c24 => ?_)
      · refine n_iconst hx hb 0 dX7_dispute_31 (by decide) ?_
        refine m_xSv (As := [.int (nI 0)]) (rest := []) X Y hA hcx (c_rp_bad l hlt D kc A e0 M ) (va_cwS 1 X.1.2.2.2.2 gX7_dispute_X7_requirePossible rfl rfl rfl (by decide +kernel) ⟨Nat.le_of_ble_eq_true rfl, Nat.le_of_ble_eq_true rfl⟩) rfl rfl hl.1 (Nat.le_of_ble_eq_true rfl) dX7_dispute_32 ⟨by decide, by decide⟩ htab hlocks (by decide) (by decide) (fun u hu => xP_i (k := 2) (z := 3) (by simp only [sp_dispute, hva, ix_nI hla, hrb, ix_nI hlb, Bool.and_self, Bool.and_true, Bool.and_false, Bool.false_and, Bool.true_and, Bool.false_eq_true, reduceIte]; rw [if_neg (by omega)]) rfl hu) (fun M9 H locs p10 Y => ?_)
        exact p10.elim
      · refine n_iconst hx hb 1 dX7_dispute_27 (by decide) ?_
        refine lv_goto (tgt := 32) hx hb dX7_dispute_28 (by decide) ?_
        refine m_rxSv (As := [.int (nI 1)]) (rest := []) X Y hA hcx (c_rp_ok l hlt D kc A e0 M ) (va_cwS 1 X.1.2.2.2.2 gX7_dispute_X7_requirePossible rfl rfl rfl (by decide +kernel) ⟨Nat.le_of_ble_eq_true rfl, Nat.le_of_ble_eq_true rfl⟩) rfl rfl hl.1 (Nat.le_of_ble_eq_true rfl) dX7_dispute_32 ⟨by decide, by decide⟩ htab hlocks (by decide) (by decide) (fun u h => h.elim) (fun H locs Y => ?_)
        refine lv_iload_n hx hb dX7_dispute_35 rfl (lv_at hl 3 rfl) ?_
        refine lv_aload_n hx hb dX7_dispute_36 rfl (lv_at hl 0 rfl) ?_
        have hg11 := hG.f1 (hpr 1 (by decide)) hja
        have hw12 := hwf.2.2.2.2.2.2.1 _ hja
        refine m_get (ref := "CardPort$Capture") (C := RX1) (T := TX1) (N := 5) (ci := 2) X Y htX7_dispute_wsX102 hg11 rfl 2 (by decide) kwX7_dispute_3 rfl (v := .int (nI (σ.1 13 ja))) rfl dX7_dispute_37 ?_
        refine lv_aload_n hx hb dX7_dispute_40 rfl (lv_at hl 1 rfl) ?_
        refine lv_aload_n hx hb dX7_dispute_41 rfl (lv_at hl 0 rfl) ?_
        refine m_rVi (As := [.ref (g.1 1 ja)]) (rest := [.int (nI (σ.1 13 ja)), .int (nI jb)]) X Y hA hcx (c_gb l D kc A e0 M hG hwf hpr ja hja) (cwV 1 X.1.2.2.2.2 gX7_dispute_X7_givenBackOf rfl rfl rfl (by decide +kernel) ⟨Nat.le_of_ble_eq_true rfl, Nat.le_of_ble_eq_true rfl⟩) hg5 rfl rfl rfl hl.1 (Nat.le_of_ble_eq_true rfl) dX7_dispute_42 ⟨by decide, by decide⟩ (fun H locs Y => ?_)
        refine n_isub hx hb (by omega) dX7_dispute_45 ?_
        refine n_icmp_gt hx hb 53 (by omega) (by omega) dX7_dispute_46 (by decide) (fun c46 => ?_) (fun c46 => ?_)
        · refine n_iconst hx hb 0 dX7_dispute_53 (by decide) ?_
          refine m_xSv (As := [.int (nI 0)]) (rest := []) X Y hA hcx (c_rp_bad l hlt D kc A e0 M ) (va_cwS 1 X.1.2.2.2.2 gX7_dispute_X7_requirePossible rfl rfl rfl (by decide +kernel) ⟨Nat.le_of_ble_eq_true rfl, Nat.le_of_ble_eq_true rfl⟩) rfl rfl hl.1 (Nat.le_of_ble_eq_true rfl) dX7_dispute_54 ⟨by decide, by decide⟩ htab hlocks (by decide) (by decide) (fun u hu => xP_i (k := 2) (z := 3) (by simp only [sp_dispute, hva, ix_nI hla, hrb, ix_nI hlb, Bool.and_self, Bool.and_true, Bool.and_false, Bool.false_and, Bool.true_and, Bool.false_eq_true, reduceIte]; rw [if_neg (by omega)]) rfl hu) (fun M13 H locs p14 Y => ?_)
          exact p14.elim
        · refine n_iconst hx hb 1 dX7_dispute_49 (by decide) ?_
          refine lv_goto (tgt := 54) hx hb dX7_dispute_50 (by decide) ?_
          refine m_rxSv (As := [.int (nI 1)]) (rest := []) X Y hA hcx (c_rp_ok l hlt D kc A e0 M ) (va_cwS 1 X.1.2.2.2.2 gX7_dispute_X7_requirePossible rfl rfl rfl (by decide +kernel) ⟨Nat.le_of_ble_eq_true rfl, Nat.le_of_ble_eq_true rfl⟩) rfl rfl hl.1 (Nat.le_of_ble_eq_true rfl) dX7_dispute_54 ⟨by decide, by decide⟩ htab hlocks (by decide) (by decide) (fun u h => h.elim) (fun H locs Y => ?_)
          have hcx9 : jb + gb σ ja ≤ σ.1 13 ja ∧ nB σ < 60 := ⟨by omega, by omega⟩
          refine m_new (C := RX3) (T := TX3) (N := 5) (ci := 4) X Y hA htX7_dispute_wsX303 tyX3 tyX3_ok kwX7_dispute_4 kwX7_dispute_5 kwX7_dispute_6 rfl (fs := [.int 0, .null, .int 0, .int 0, .int 0]) (fun j hj => by rcases (show j = 0 ∨ j = 1 ∨ j = 2 ∨ j = 3 ∨ j = 4 by omega) with rfl | rfl | rfl | rfl | rfl <;> rfl) (by decide) (by decide) dX7_dispute_57 (fun q15 H fq15 Y => ?_)
          obtain ⟨M16, eM16⟩ : ∃ zz9 : Mp, zz9 = mu M q15 (.inr (4, [.int 0, .null, .int 0, .int 0, .int 0])) := ⟨_, rfl⟩
          replace Y : mY D A M16 s H locs := by rw [eM16]; exact Y
          have hh17 : M16 (g.1 7 0) = some (.inr (8, [.ref (g.1 8 0), .ref (g.1 8 1), .ref (g.1 8 2), .ref (g.1 8 3), .ref (g.1 9 0), .ref (g.1 9 1), .ref (g.1 9 2), .int (nI (tD σ))])) := by rw [eM16, mu_ne _ _ (ne_fresh hg5 fq15)]; exact hg5
          have hh18 : M16 (g.1 9 2) = some (.inr (0, [.int (g.2.2.2 2), .ref (lar e0 σ g 2), .int (nI (nB σ))])) := by rw [eM16, mu_ne _ _ (ne_fresh hg8 fq15)]; exact hg8
          have hh19 : M16 (g.1 1 ja) = some (.inr (2, [.int (nI ja), .ref (g.1 5 (σ.1 12 ja)), .int (nI (σ.1 13 ja)), .int (nI (σ.1 14 ja)), .int (nI (σ.1 15 ja))])) := by rw [eM16, mu_ne _ _ (ne_fresh hg11 fq15)]; exact hg11
          have hh20 : M16 q15 = some (.inr (4, [.int 0, .null, .int 0, .int 0, .int 0])) := by rw [eM16]; exact mu_self _ _ _
          refine lv_dup hx hb dX7_dispute_60 rfl ?_
          refine lv_aload_n hx hb dX7_dispute_61 rfl (lv_at hl 1 rfl) ?_
          refine m_get (ref := "CardPort") (C := RX7) (T := TX7) (N := 8) (ci := 8) X Y htX7_dispute_wsX701 hh17 rfl 6 (by decide) kwX7_dispute_2 rfl (v := .ref (g.1 9 2)) rfl dX7_dispute_62 ?_
          refine m_rFi (As := []) (rest := [.ref q15, .ref q15]) X Y hA hcx (c_size l D kc A e0 M16 (g.1 9 2) (lar e0 σ g 2) (nB σ) (g.2.2.2 2) hh18) (va_cwF 0 X.1.2.2.2.2 gX7_dispute_Jx4a65c_size_8abf5_f94Jx4a65c rfl rfl rfl hcx.1.2.2.2.2.2.2.1 (by decide +kernel) ⟨Nat.le_of_ble_eq_true rfl, Nat.le_of_ble_eq_true rfl⟩) hh18 rfl rfl rfl hl.1 (Nat.le_of_ble_eq_true rfl) dX7_dispute_65 ⟨by decide, by decide⟩ (fun H locs Y => ?_)
          refine lv_aload_n hx hb dX7_dispute_70 rfl (lv_at hl 0 rfl) ?_
          refine lv_iload_n hx hb dX7_dispute_71 rfl (lv_at hl 3 rfl) ?_
          refine lv_aload_n hx hb dX7_dispute_72 rfl (lv_at hl 1 rfl) ?_
          refine m_get (ref := "CardPort") (C := RX7) (T := TX7) (N := 8) (ci := 8) X Y htX7_dispute_wsX701 hh17 rfl 7 (by decide) kwX7_dispute_7 rfl (v := .int (nI (tD σ))) rfl dX7_dispute_73 ?_
          refine n_bipush hx hb 10 dX7_dispute_76 (by decide) ?_
          refine n_iadd hx hb dX7_dispute_78 ?_
          refine m_Iv (As := [.int (nI (nB σ)), .ref (g.1 1 ja), .int (nI jb), .int (nI ((tD σ) + 10))]) (rest := [.ref q15]) X Y hA hcx (c_X3_init l D kc A e0 M16 q15 (nB σ) (g.1 1 ja) jb (tD σ + 10) 0 0 0 0 hh20) (cwI 4 X.1.2.2.2.2 gX7_dispute_X3_init rfl rfl rfl (X.1.2.2.2.2 _ kwX7_dispute_6) (X.1.2.2.2.2 _ kwX7_dispute_60) (X.1.2.2.2.2 _ kwX7_dispute_61) rfl (by decide +kernel) ⟨Nat.le_of_ble_eq_true rfl, Nat.le_of_ble_eq_true rfl⟩) rfl rfl hl.1 (Nat.le_of_ble_eq_true rfl) dX7_dispute_79 ⟨by decide, by decide⟩ (fun M21 H locs p22 Y => ?_)
          have hh23 : M21 (g.1 7 0) = some (.inr (8, [.ref (g.1 8 0), .ref (g.1 8 1), .ref (g.1 8 2), .ref (g.1 8 3), .ref (g.1 9 0), .ref (g.1 9 1), .ref (g.1 9 2), .int (nI (tD σ))])) := by rw [p22, mu_ne _ _ (ne_fresh hg5 fq15)]; exact hh17
          have hh24 : M21 (g.1 9 2) = some (.inr (0, [.int (g.2.2.2 2), .ref (lar e0 σ g 2), .int (nI (nB σ))])) := by rw [p22, mu_ne _ _ (ne_fresh hg8 fq15)]; exact hh18
          have hh25 : M21 (g.1 1 ja) = some (.inr (2, [.int (nI ja), .ref (g.1 5 (σ.1 12 ja)), .int (nI (σ.1 13 ja)), .int (nI (σ.1 14 ja)), .int (nI (σ.1 15 ja))])) := by rw [p22, mu_ne _ _ (ne_fresh hg11 fq15)]; exact hh19
          have hh26 : M21 q15 = some (.inr (4, [.int (nI (nB σ)), .ref (g.1 1 ja), .int (nI jb), .int (nI 0), .int (nI (tD σ + 10))])) := by rw [p22]; exact mu_self _ _ _
          have p22q : M21 = mu M q15 (.inr (4, [.int (nI (nB σ)), .ref (g.1 1 ja), .int (nI jb), .int (nI 0), .int (nI (tD σ + 10))])) := by rw [p22, eM16, mu_mu]
          refine lv_astore (lv' := [(4, .ref q15), (3, .ref (g.1 1 ja)), (0, .ref (g.1 7 0)), (1, .int (nI ja)), (2, .int (nI jb))]) hx hb dX7_dispute_82 hl (by decide) rfl (fun ls hl => ?_)
          refine lv_aload_n hx hb dX7_dispute_84 rfl (lv_at hl 2 rfl) ?_
          refine m_get (ref := "CardPort") (C := RX7) (T := TX7) (N := 8) (ci := 8) X Y htX7_dispute_wsX701 hh23 rfl 6 (by decide) kwX7_dispute_2 rfl (v := .ref (g.1 9 2)) rfl dX7_dispute_85 ?_
          refine lv_aload hx hb dX7_dispute_88 (lv_at hl 0 rfl) ?_
          refine m_Fi (As := [.ref q15]) (rest := []) X Y hA hcx (c_add l D kc A e0 M21 4 _ _ _ rfl (by decide) (g.1 9 2) (lar e0 σ g 2) (nB σ) (g.2.1 2) q15 _ (g.2.2.2 2) (g.2.2.1 2) hh24 hh26 (by decide) (by rw [p22q]; exact lsOk_new (hG.ls2 (hpr 9 (by decide)) (hpr 10 (by decide)) (hpr 3 (by decide)) (by omega)) fq15)) (va_cwF 1 X.1.2.2.2.2 gX7_dispute_Jx4a65c_add_9ea2d_f113Jx4a65c rfl rfl rfl hcx.1.2.2.2.2.2.2.2.2.1 (by decide +kernel) ⟨Nat.le_of_ble_eq_true rfl, Nat.le_of_ble_eq_true rfl⟩) hh24 rfl rfl rfl hl.1 (Nat.le_of_ble_eq_true rfl) dX7_dispute_90 ⟨by decide, by decide⟩ (fun r27 M28 H locs p29 Y => ?_)
          have had := p29.2
          rw [p22q] at had
          obtain ⟨g', hkg, hag, hgx, hG9⟩ := hG.growB hwf hpr fq15 hja had
          replace hl : lv_has ls 5 [(4, .ref (g'.1 3 (nB σ))), (3, .ref (g'.1 1 ja)), (0, .ref (g'.1 7 0)), (1, .int (nI ja)), (2, .int (nI jb))] := by
            rw [hkg 7 0 (by decide) (by decide) (by decide) (by decide), hag 1 ja (by decide) (fun z => absurd z.1 (by decide)), hgx]; exact hl
          have fk30 : M28 (g'.1 1 ja) = some (.inr (2, [.int (nI ja), .ref (g'.1 5 (σ.1 12 ja)), .int (nI (σ.1 13 ja)), .int (nI (σ.1 14 ja)), .int (nI (σ.1 15 ja))])) := hG9.f1 (hpr 1 (by decide)) hja
          have hw1 := hwf.2.2.2.2.2.2.1 _ hja
          have hw5 := hwf.2.2.2.2.1 _ hw1.1
          have hd3 := div3 hw5.1
          have fk31 : M28 (g'.1 5 (σ.1 12 ja)) = some (.inr (6, [.int (nI (σ.1 12 ja)), .ref (g'.1 2 (σ.1 5 (σ.1 12 ja))), .ref (g'.1 6 (σ.1 6 (σ.1 12 ja))), .int (nI (σ.1 7 (σ.1 12 ja))), .int (nI (σ.1 9 (σ.1 12 ja))), .int (nI (σ.1 8 (σ.1 12 ja))), .int (nI (σ.1 10 (σ.1 12 ja)))])) := hG9.f5 (hpr 5 (by decide)) hw1.1
          have fk32 : M28 (g'.1 2 (σ.1 5 (σ.1 12 ja))) = some (.inr (3, [.int (nI (σ.1 5 (σ.1 12 ja))), .ref (g'.1 0 (σ.1 5 (σ.1 12 ja) / 3))])) := hG9.f2 (hpr 2 (by decide)) hw5.1
          have fk33 : M28 (g'.1 6 (σ.1 6 (σ.1 12 ja))) = some (.inr (7, [.int (nI (σ.1 6 (σ.1 12 ja))), .ref (g'.1 0 (σ.1 6 (σ.1 12 ja) % 4)), .ref (g'.1 4 (σ.1 1 (σ.1 6 (σ.1 12 ja))))])) := hG9.f6 (hpr 6 (by decide)) hw5.2.1
          have fk34 : M28 (g'.1 0 (σ.1 5 (σ.1 12 ja) / 3)) = some (.inr (1, [.long (lI (σ.2 0 (σ.1 5 (σ.1 12 ja) / 3))), .long (lI (σ.2 1 (σ.1 5 (σ.1 12 ja) / 3)))])) := hG9.f0 (hpr 0 (by decide)) hd3
          have fk35 : M28 (g'.1 0 (σ.1 6 (σ.1 12 ja) % 4)) = some (.inr (1, [.long (lI (σ.2 0 (σ.1 6 (σ.1 12 ja) % 4))), .long (lI (σ.2 1 (σ.1 6 (σ.1 12 ja) % 4)))])) := hG9.f0 (hpr 0 (by decide)) (Nat.mod_lt _ (by decide))
          refine lv_pop hx hb dX7_dispute_95 rfl ?_
          refine lv_aload_n hx hb dX7_dispute_96 rfl (lv_at hl 1 rfl) ?_
          refine m_rVq (As := []) (rest := []) X Y hA hcx (c_X1_shopBank l D kc A e0 M28 (g'.1 1 ja) (g'.1 5 (σ.1 12 ja)) (g'.1 2 (σ.1 5 (σ.1 12 ja))) (g'.1 6 (σ.1 6 (σ.1 12 ja))) (g'.1 0 (σ.1 6 (σ.1 12 ja) % 4)) (g'.1 4 (σ.1 1 (σ.1 6 (σ.1 12 ja)))) (σ.1 13 ja) (σ.1 14 ja) (σ.1 15 ja) (σ.1 7 (σ.1 12 ja)) (σ.1 9 (σ.1 12 ja)) (σ.1 8 (σ.1 12 ja)) (σ.1 10 (σ.1 12 ja)) (nI ja) (nI (σ.1 12 ja)) (nI (σ.1 6 (σ.1 12 ja))) fk30 fk31 fk33) (cwV 0 X.1.2.2.2.2 gX7_dispute_X1_shopBank rfl rfl rfl (by decide +kernel) ⟨Nat.le_of_ble_eq_true rfl, Nat.le_of_ble_eq_true rfl⟩) fk30 rfl rfl rfl hl.1 (Nat.le_of_ble_eq_true rfl) dX7_dispute_97 ⟨by decide, by decide⟩ (fun H locs Y => ?_)
          refine lv_aload_n hx hb dX7_dispute_100 rfl (lv_at hl 1 rfl) ?_
          refine m_rVq (As := []) (rest := [.ref (g'.1 0 (σ.1 6 (σ.1 12 ja) % 4))]) X Y hA hcx (c_X1_cardBank l D kc A e0 M28 (g'.1 1 ja) (g'.1 5 (σ.1 12 ja)) (g'.1 2 (σ.1 5 (σ.1 12 ja))) (g'.1 6 (σ.1 6 (σ.1 12 ja))) (g'.1 0 (σ.1 5 (σ.1 12 ja) / 3)) (σ.1 13 ja) (σ.1 14 ja) (σ.1 15 ja) (σ.1 7 (σ.1 12 ja)) (σ.1 9 (σ.1 12 ja)) (σ.1 8 (σ.1 12 ja)) (σ.1 10 (σ.1 12 ja)) (nI ja) (nI (σ.1 12 ja)) (nI (σ.1 5 (σ.1 12 ja))) fk30 fk31 fk32) (cwV 0 X.1.2.2.2.2 gX7_dispute_X1_cardBank rfl rfl rfl (by decide +kernel) ⟨Nat.le_of_ble_eq_true rfl, Nat.le_of_ble_eq_true rfl⟩) fk30 rfl rfl rfl hl.1 (Nat.le_of_ble_eq_true rfl) dX7_dispute_101 ⟨by decide, by decide⟩ (fun H locs Y => ?_)
          refine lv_iload_n hx hb dX7_dispute_104 rfl (lv_at hl 4 rfl) ?_
          refine m_Vv (As := [.ref (g'.1 0 (σ.1 5 (σ.1 12 ja) / 3)), .int (nI jb)]) (rest := []) X Y hA hcx (c_X0_pay l D kc A e0 M28 (g'.1 0 (σ.1 6 (σ.1 12 ja) % 4)) (g'.1 0 (σ.1 5 (σ.1 12 ja) / 3)) (lI (σ.2 0 (σ.1 6 (σ.1 12 ja) % 4))) (lI (σ.2 1 (σ.1 6 (σ.1 12 ja) % 4))) (lI (σ.2 0 (σ.1 5 (σ.1 12 ja) / 3))) (lI (σ.2 1 (σ.1 5 (σ.1 12 ja) / 3))) (nI jb) fk35 fk34) (cwV 2 X.1.2.2.2.2 gX7_dispute_X0_pay rfl rfl rfl (by decide +kernel) ⟨Nat.le_of_ble_eq_true rfl, Nat.le_of_ble_eq_true rfl⟩) fk35 rfl rfl rfl hl.1 (Nat.le_of_ble_eq_true rfl) dX7_dispute_105 ⟨by decide, by decide⟩ (fun M36 H locs p37 Y => ?_)
          have hG8 := hG9.pay (hpr 0 (by decide)) (a := sBk σ ja) (b := cBk σ ja) (v := jb) (Nat.mod_lt _ (by decide)) hd3 (by omega)
          replace hG8 : G pr kc e0 (addCb σ ja jb) τ th o g' M36 := by rw [p37]; exact hG8
          have hq9 := hG8.f3 (hpr 3 (by decide)) (i := nB σ) (show nB σ < nB σ + 1 by omega)
          refine lv_aload hx hb dX7_dispute_108 (lv_at hl 0 rfl) ?_
          refine m_get (ref := "CardPort$Chargeback") (C := RX3) (T := TX3) (N := 5) (ci := 4) X Y htX7_dispute_wsX303 hq9 rfl 0 (by decide) kwX7_dispute_8 rfl (v := .int (nI (nB σ))) rfl dX7_dispute_110 ?_
          refine vx_ret (m_iret X Y hr hlocks (by decide) (by decide) ?_ dX7_dispute_113)
          exact PC_i (by simp only [sp_dispute, hva, ix_nI hla, hrb, ix_nI hlb, Bool.and_self, Bool.and_true, Bool.and_false, Bool.false_and, Bool.true_and, Bool.false_eq_true, reduceIte]; rw [if_pos hcx9]) hkg hG8
theorem kwX7_answer_1 : Cond.fieldLink RX7 184 "CardPort$Chargeback" "stage" "I" ∈ wsX7_answer := List.mem_of_getElem? (i := 1) rfl
theorem htX7_answer_wsX301 : ∀ w ∈ wsX30, w ∈ wsX7_answer := fun _ h => List.mem_cons_of_mem _ (List.mem_append_left _ (List.mem_append_left _ (List.mem_append_left _ (List.mem_append_left _ (List.mem_append_left _ (List.mem_append_left _ (List.mem_append_left _ (List.mem_append_left _ (List.mem_append_left _ (List.mem_append_right _ h))))))))))
theorem kwX7_answer_2 : Cond.fieldLink RX7 46 "CardPort" "day" "I" ∈ wsX7_answer := List.mem_of_getElem? (i := 2) rfl
theorem htX7_answer_wsX702 : ∀ w ∈ wsX70, w ∈ wsX7_answer := fun _ h => List.mem_cons_of_mem _ (List.mem_append_left _ (List.mem_append_left _ (List.mem_append_left _ (List.mem_append_left _ (List.mem_append_left _ (List.mem_append_left _ (List.mem_append_left _ (List.mem_append_left _ (List.mem_append_right _ h)))))))))
theorem kwX7_answer_3 : Cond.fieldLink RX7 187 "CardPort$Chargeback" "lastDay" "I" ∈ wsX7_answer := List.mem_of_getElem? (i := 3) rfl
set_option maxHeartbeats 4000000 in
set_option maxRecDepth 100000 in
theorem c_X7_answer (l : Launch) (hlt : l.stackTraces = false) (D : va_G) (kc : Nat → ClassId) (A : Nat → Prop) (e0 : Nat × Nat) (M : Mp) {pr : Nat → Prop} {σ τ : Sg} {th : Int32} {o : Int64} {g : Gh} {nn : Nat} (hG : G pr kc e0 σ τ th o g M) (hwf : WS nn σ) (hpr : ∀ t, t ≤ 10 → pr t) (a : Int32) : vx_Met l yX7_answer wsX7_answer ({ frames := 8, cells := 12, slots := 320, locals := 300 }) (mPre D kc A e0 M [.ref (g.1 7 0), .int a]) (va_Qi (PC pr kc e0 τ th o g (sp_answer σ a)) (mB D A) A) (mXC D A (xP M [1, 3] (sp_answer σ a).1)) 12 320 A := by
  refine vx_ofW (cc := cX7_answer) (maxL := 3) (ret := (some .int)) (by decide) rfl ?_
  intro p e s m args below meth c s₁ B hml htab hv
  obtain ⟨rfl, hw, hK, hA, hcx⟩ := hv
  have X : mX p s m _ c cX7_answer 3 RX7 wsX7_answer D kc := ⟨⟨B.exec, B.bytes, hml, findClass_of_methodNamed B.named, atoms_spec (ws := wsX7_answer) B.pre⟩, hK⟩
  have hx := B.exec
  have hb := B.bytes
  have hr := B.returns
  have hlocks := B.notSynchronized
  have Y : mY D A M s s.heap [] := ⟨hw, va_S.rf⟩
  have hl := lv_entry ([.ref (g.1 7 0), .int a]) (n := 3) (Nat.le_of_ble_eq_true rfl)
  rw [lg_entry_eq]
  generalize (lg_sl ([.ref (g.1 7 0), .int a]) ++ List.replicate (3 - (lg_sl ([.ref (g.1 7 0), .int a])).length) Slot.unset).toArray = ls at hl ⊢
  have hl : lv_has ls 3 [(0, .ref (g.1 7 0)), (1, .int a)] := hl
  have hwn := hwf.2.2.2.1
  have hwd := hwf.1
  refine lv_aload_n hx hb dX7_answer_0 rfl (lv_at hl 0 rfl) ?_
  refine lv_iload_n hx hb dX7_answer_1 rfl (lv_at hl 1 rfl) ?_
  cases hva : vI a (nB σ) with
  | false =>
    have hg1 := hG.f7 (hpr 7 (by decide))
    refine m_xVq (As := [.int a]) (rest := []) X Y hA hcx (c_chargebackAt_bad l hlt D kc A e0 M hG hwf hpr a (vI_f hva (by omega))) (cwV 1 X.1.2.2.2.2 gX7_answer_X7_chargebackAt rfl rfl rfl (by decide +kernel) ⟨Nat.le_of_ble_eq_true rfl, Nat.le_of_ble_eq_true rfl⟩) hg1 rfl rfl rfl hl.1 (Nat.le_of_ble_eq_true rfl) dX7_answer_2 ⟨by decide, by decide⟩ htab hlocks (by decide) (by decide) (fun u hu => xP_i (k := 0) (z := 1) (by simp only [sp_answer, hva, Bool.and_self, Bool.and_true, Bool.and_false, Bool.false_and, Bool.true_and, Bool.false_eq_true, reduceIte]) rfl hu) (fun r2 M3 H locs p4 Y => ?_)
    exact p4.elim
  | true =>
    obtain ⟨ja, hja, hla, rfl⟩ := vI_t hva
    have hia := ix_nI hla
    have hg5 := hG.f7 (hpr 7 (by decide))
    refine m_rxVq (As := [.int (nI ja)]) (rest := []) X Y hA hcx (c_chargebackAt l hlt D kc A e0 M hG hwf hpr ja hja) (cwV 1 X.1.2.2.2.2 gX7_answer_X7_chargebackAt rfl rfl rfl (by decide +kernel) ⟨Nat.le_of_ble_eq_true rfl, Nat.le_of_ble_eq_true rfl⟩) hg5 rfl rfl rfl hl.1 (Nat.le_of_ble_eq_true rfl) dX7_answer_2 ⟨by decide, by decide⟩ htab hlocks (by decide) (by decide) (fun u h => h.elim) (fun H locs Y => ?_)
    refine lv_astore_n (lv' := [(2, .ref (g.1 3 ja)), (0, .ref (g.1 7 0)), (1, .int (nI ja))]) hx hb dX7_answer_5 rfl hl (by decide) rfl (fun ls hl => ?_)
    refine lv_aload_n hx hb dX7_answer_6 rfl (lv_at hl 0 rfl) ?_
    have hg6 := hG.f3 (hpr 3 (by decide)) hja
    have hw7 := hwf.2.2.2.2.2.2.2.2 _ hja
    refine m_get (ref := "CardPort$Chargeback") (C := RX3) (T := TX3) (N := 5) (ci := 4) X Y htX7_answer_wsX301 hg6 rfl 3 (by decide) kwX7_answer_1 rfl (v := .int (nI (σ.1 17 ja))) rfl dX7_answer_7 ?_
    refine n_if_ne hx hb 17 (by omega) dX7_answer_10 (by decide) (fun c10 => ?_) (fun c10 => ?_)
    · refine n_iconst hx hb 0 dX7_answer_17 (by decide) ?_
      refine m_xSv (As := [.int (nI 0)]) (rest := []) X Y hA hcx (c_rp_bad l hlt D kc A e0 M ) (va_cwS 1 X.1.2.2.2.2 gX7_answer_X7_requirePossible rfl rfl rfl (by decide +kernel) ⟨Nat.le_of_ble_eq_true rfl, Nat.le_of_ble_eq_true rfl⟩) rfl rfl hl.1 (Nat.le_of_ble_eq_true rfl) dX7_answer_18 ⟨by decide, by decide⟩ htab hlocks (by decide) (by decide) (fun u hu => xP_i (k := 1) (z := 3) (by simp only [sp_answer, hva, ix_nI hla, Bool.and_self, Bool.and_true, Bool.and_false, Bool.false_and, Bool.true_and, Bool.false_eq_true, reduceIte]; rw [if_neg (by omega)]) rfl hu) (fun M8 H locs p9 Y => ?_)
      exact p9.elim
    · refine n_iconst hx hb 1 dX7_answer_13 (by decide) ?_
      refine lv_goto (tgt := 18) hx hb dX7_answer_14 (by decide) ?_
      refine m_rxSv (As := [.int (nI 1)]) (rest := []) X Y hA hcx (c_rp_ok l hlt D kc A e0 M ) (va_cwS 1 X.1.2.2.2.2 gX7_answer_X7_requirePossible rfl rfl rfl (by decide +kernel) ⟨Nat.le_of_ble_eq_true rfl, Nat.le_of_ble_eq_true rfl⟩) rfl rfl hl.1 (Nat.le_of_ble_eq_true rfl) dX7_answer_18 ⟨by decide, by decide⟩ htab hlocks (by decide) (by decide) (fun u h => h.elim) (fun H locs Y => ?_)
      have hg10 := hG.f1 (hpr 1 (by decide)) (hwf.2.2.2.2.2.2.2.2 _ hja).2.1
      have hw11 := hwf.2.2.2.2.2.2.1 _ (hwf.2.2.2.2.2.2.2.2 _ hja).2.1
      have hg12 := hG.f5 (hpr 5 (by decide)) (hwf.2.2.2.2.2.2.1 _ (hwf.2.2.2.2.2.2.2.2 _ hja).2.1).1
      have hw13 := hwf.2.2.2.2.1 _ (hwf.2.2.2.2.2.2.1 _ (hwf.2.2.2.2.2.2.2.2 _ hja).2.1).1
      have hg14 := hG.f2 (hpr 2 (by decide)) (hwf.2.2.2.2.1 _ (hwf.2.2.2.2.2.2.1 _ (hwf.2.2.2.2.2.2.2.2 _ hja).2.1).1).1
      have hg15 := hG.f6 (hpr 6 (by decide)) (hwf.2.2.2.2.1 _ (hwf.2.2.2.2.2.2.1 _ (hwf.2.2.2.2.2.2.2.2 _ hja).2.1).1).2.1
      have hg16 := hG.f0 (hpr 0 (by decide)) (div3 (hwf.2.2.2.2.1 _ (hwf.2.2.2.2.2.2.1 _ (hwf.2.2.2.2.2.2.2.2 _ hja).2.1).1).1)
      have hg17 := hG.f0 (hpr 0 (by decide)) (Nat.mod_lt (σ.1 6 (σ.1 12 (σ.1 18 ja))) (by decide))
      have hst9 : σ.1 17 ja = 0 := by omega
      refine lv_aload_n hx hb dX7_answer_21 rfl (lv_at hl 0 rfl) ?_
      refine n_iconst hx hb 1 dX7_answer_22 (by decide) ?_
      refine m_put (ref := "CardPort$Chargeback") (C := RX3) (T := TX3) (N := 5) (ci := 4) X Y htX7_answer_wsX301 tyX3 tyX3_ok nmX3 hg6 rfl 3 (by decide) kwX7_answer_1 rfl rfl (v := .int (nI 1)) rfl rfl (Nat.le_of_ble_eq_true rfl) dX7_answer_23 (fun H locs Y => ?_)
      obtain ⟨M18, eM18⟩ : ∃ zz9 : Mp, zz9 = mu M (g.1 3 ja) (.inr (4, [.int (nI ja), .ref (g.1 1 (σ.1 18 ja)), .int (nI (σ.1 19 ja)), .int (nI 1), .int (cbl (σ.1 17 ja) (σ.1 20 ja))])) := ⟨_, rfl⟩
      replace Y : mY D A M18 s H locs := by rw [eM18]; exact Y
      have hh19 : M18 (g.1 7 0) = some (.inr (8, [.ref (g.1 8 0), .ref (g.1 8 1), .ref (g.1 8 2), .ref (g.1 8 3), .ref (g.1 9 0), .ref (g.1 9 1), .ref (g.1 9 2), .int (nI (tD σ))])) := by rw [eM18, mu_ne _ _ (hG.ne ⟨hpr 7 (by decide), rfl⟩ ⟨hpr 3 (by decide), hja⟩ (fun zq => absurd zq.1 (by decide)))]; exact hg5
      have hh20 : M18 (g.1 1 (σ.1 18 ja)) = some (.inr (2, [.int (nI (σ.1 18 ja)), .ref (g.1 5 (σ.1 12 (σ.1 18 ja))), .int (nI (σ.1 13 (σ.1 18 ja))), .int (nI (σ.1 14 (σ.1 18 ja))), .int (nI (σ.1 15 (σ.1 18 ja)))])) := by rw [eM18, mu_ne _ _ (hG.ne ⟨hpr 1 (by decide), (hwf.2.2.2.2.2.2.2.2 _ hja).2.1⟩ ⟨hpr 3 (by decide), hja⟩ (fun zq => absurd zq.1 (by decide)))]; exact hg10
      have hh21 : M18 (g.1 5 (σ.1 12 (σ.1 18 ja))) = some (.inr (6, [.int (nI (σ.1 12 (σ.1 18 ja))), .ref (g.1 2 (σ.1 5 (σ.1 12 (σ.1 18 ja)))), .ref (g.1 6 (σ.1 6 (σ.1 12 (σ.1 18 ja)))), .int (nI (σ.1 7 (σ.1 12 (σ.1 18 ja)))), .int (nI (σ.1 9 (σ.1 12 (σ.1 18 ja)))), .int (nI (σ.1 8 (σ.1 12 (σ.1 18 ja)))), .int (nI (σ.1 10 (σ.1 12 (σ.1 18 ja))))])) := by rw [eM18, mu_ne _ _ (hG.ne ⟨hpr 5 (by decide), (hwf.2.2.2.2.2.2.1 _ (hwf.2.2.2.2.2.2.2.2 _ hja).2.1).1⟩ ⟨hpr 3 (by decide), hja⟩ (fun zq => absurd zq.1 (by decide)))]; exact hg12
      have hh22 : M18 (g.1 2 (σ.1 5 (σ.1 12 (σ.1 18 ja)))) = some (.inr (3, [.int (nI (σ.1 5 (σ.1 12 (σ.1 18 ja)))), .ref (g.1 0 ((σ.1 5 (σ.1 12 (σ.1 18 ja))) / 3))])) := by rw [eM18, mu_ne _ _ (hG.ne ⟨hpr 2 (by decide), (hwf.2.2.2.2.1 _ (hwf.2.2.2.2.2.2.1 _ (hwf.2.2.2.2.2.2.2.2 _ hja).2.1).1).1⟩ ⟨hpr 3 (by decide), hja⟩ (fun zq => absurd zq.1 (by decide)))]; exact hg14
      have hh23 : M18 (g.1 6 (σ.1 6 (σ.1 12 (σ.1 18 ja)))) = some (.inr (7, [.int (nI (σ.1 6 (σ.1 12 (σ.1 18 ja)))), .ref (g.1 0 ((σ.1 6 (σ.1 12 (σ.1 18 ja))) % 4)), .ref (g.1 4 (σ.1 1 (σ.1 6 (σ.1 12 (σ.1 18 ja)))))])) := by rw [eM18, mu_ne _ _ (hG.ne ⟨hpr 6 (by decide), (hwf.2.2.2.2.1 _ (hwf.2.2.2.2.2.2.1 _ (hwf.2.2.2.2.2.2.2.2 _ hja).2.1).1).2.1⟩ ⟨hpr 3 (by decide), hja⟩ (fun zq => absurd zq.1 (by decide)))]; exact hg15
      have hh24 : M18 (g.1 0 ((σ.1 5 (σ.1 12 (σ.1 18 ja))) / 3)) = some (.inr (1, [.long (lI (σ.2 0 ((σ.1 5 (σ.1 12 (σ.1 18 ja))) / 3))), .long (lI (σ.2 1 ((σ.1 5 (σ.1 12 (σ.1 18 ja))) / 3)))])) := by rw [eM18, mu_ne _ _ (hG.ne ⟨hpr 0 (by decide), (div3 (hwf.2.2.2.2.1 _ (hwf.2.2.2.2.2.2.1 _ (hwf.2.2.2.2.2.2.2.2 _ hja).2.1).1).1)⟩ ⟨hpr 3 (by decide), hja⟩ (fun zq => absurd zq.1 (by decide)))]; exact hg16
      have hh25 : M18 (g.1 0 ((σ.1 6 (σ.1 12 (σ.1 18 ja))) % 4)) = some (.inr (1, [.long (lI (σ.2 0 ((σ.1 6 (σ.1 12 (σ.1 18 ja))) % 4))), .long (lI (σ.2 1 ((σ.1 6 (σ.1 12 (σ.1 18 ja))) % 4)))])) := by rw [eM18, mu_ne _ _ (hG.ne ⟨hpr 0 (by decide), (Nat.mod_lt (σ.1 6 (σ.1 12 (σ.1 18 ja))) (by decide))⟩ ⟨hpr 3 (by decide), hja⟩ (fun zq => absurd zq.1 (by decide)))]; exact hg17
      have hh26 : M18 (g.1 3 ja) = some (.inr (4, [.int (nI ja), .ref (g.1 1 (σ.1 18 ja)), .int (nI (σ.1 19 ja)), .int (nI 1), .int (cbl (σ.1 17 ja) (σ.1 20 ja))])) := by rw [eM18]; exact mu_self _ _ _
      refine lv_aload_n hx hb dX7_answer_26 rfl (lv_at hl 0 rfl) ?_
      refine lv_aload_n hx hb dX7_answer_27 rfl (lv_at hl 1 rfl) ?_
      refine m_get (ref := "CardPort") (C := RX7) (T := TX7) (N := 8) (ci := 8) X Y htX7_answer_wsX702 hh19 rfl 7 (by decide) kwX7_answer_2 rfl (v := .int (nI (tD σ))) rfl dX7_answer_28 ?_
      refine n_bipush hx hb 10 dX7_answer_31 (by decide) ?_
      refine n_iadd hx hb dX7_answer_33 ?_
      refine m_put (ref := "CardPort$Chargeback") (C := RX3) (T := TX3) (N := 5) (ci := 4) X Y htX7_answer_wsX301 tyX3 tyX3_ok nmX3 hh26 rfl 4 (by decide) kwX7_answer_3 rfl rfl (v := .int (nI ((tD σ) + 10))) rfl rfl (Nat.le_of_ble_eq_true rfl) dX7_answer_34 (fun H locs Y => ?_)
      obtain ⟨M27, eM27⟩ : ∃ zz9 : Mp, zz9 = mu M18 (g.1 3 ja) (.inr (4, [.int (nI ja), .ref (g.1 1 (σ.1 18 ja)), .int (nI (σ.1 19 ja)), .int (nI 1), .int (nI ((tD σ) + 10))])) := ⟨_, rfl⟩
      replace Y : mY D A M27 s H locs := by rw [eM27]; exact Y
      have hh28 : M27 (g.1 7 0) = some (.inr (8, [.ref (g.1 8 0), .ref (g.1 8 1), .ref (g.1 8 2), .ref (g.1 8 3), .ref (g.1 9 0), .ref (g.1 9 1), .ref (g.1 9 2), .int (nI (tD σ))])) := by rw [eM27, mu_ne _ _ (hG.ne ⟨hpr 7 (by decide), rfl⟩ ⟨hpr 3 (by decide), hja⟩ (fun zq => absurd zq.1 (by decide)))]; exact hh19
      have hh29 : M27 (g.1 1 (σ.1 18 ja)) = some (.inr (2, [.int (nI (σ.1 18 ja)), .ref (g.1 5 (σ.1 12 (σ.1 18 ja))), .int (nI (σ.1 13 (σ.1 18 ja))), .int (nI (σ.1 14 (σ.1 18 ja))), .int (nI (σ.1 15 (σ.1 18 ja)))])) := by rw [eM27, mu_ne _ _ (hG.ne ⟨hpr 1 (by decide), (hwf.2.2.2.2.2.2.2.2 _ hja).2.1⟩ ⟨hpr 3 (by decide), hja⟩ (fun zq => absurd zq.1 (by decide)))]; exact hh20
      have hh30 : M27 (g.1 5 (σ.1 12 (σ.1 18 ja))) = some (.inr (6, [.int (nI (σ.1 12 (σ.1 18 ja))), .ref (g.1 2 (σ.1 5 (σ.1 12 (σ.1 18 ja)))), .ref (g.1 6 (σ.1 6 (σ.1 12 (σ.1 18 ja)))), .int (nI (σ.1 7 (σ.1 12 (σ.1 18 ja)))), .int (nI (σ.1 9 (σ.1 12 (σ.1 18 ja)))), .int (nI (σ.1 8 (σ.1 12 (σ.1 18 ja)))), .int (nI (σ.1 10 (σ.1 12 (σ.1 18 ja))))])) := by rw [eM27, mu_ne _ _ (hG.ne ⟨hpr 5 (by decide), (hwf.2.2.2.2.2.2.1 _ (hwf.2.2.2.2.2.2.2.2 _ hja).2.1).1⟩ ⟨hpr 3 (by decide), hja⟩ (fun zq => absurd zq.1 (by decide)))]; exact hh21
      have hh31 : M27 (g.1 2 (σ.1 5 (σ.1 12 (σ.1 18 ja)))) = some (.inr (3, [.int (nI (σ.1 5 (σ.1 12 (σ.1 18 ja)))), .ref (g.1 0 ((σ.1 5 (σ.1 12 (σ.1 18 ja))) / 3))])) := by rw [eM27, mu_ne _ _ (hG.ne ⟨hpr 2 (by decide), (hwf.2.2.2.2.1 _ (hwf.2.2.2.2.2.2.1 _ (hwf.2.2.2.2.2.2.2.2 _ hja).2.1).1).1⟩ ⟨hpr 3 (by decide), hja⟩ (fun zq => absurd zq.1 (by decide)))]; exact hh22
      have hh32 : M27 (g.1 6 (σ.1 6 (σ.1 12 (σ.1 18 ja)))) = some (.inr (7, [.int (nI (σ.1 6 (σ.1 12 (σ.1 18 ja)))), .ref (g.1 0 ((σ.1 6 (σ.1 12 (σ.1 18 ja))) % 4)), .ref (g.1 4 (σ.1 1 (σ.1 6 (σ.1 12 (σ.1 18 ja)))))])) := by rw [eM27, mu_ne _ _ (hG.ne ⟨hpr 6 (by decide), (hwf.2.2.2.2.1 _ (hwf.2.2.2.2.2.2.1 _ (hwf.2.2.2.2.2.2.2.2 _ hja).2.1).1).2.1⟩ ⟨hpr 3 (by decide), hja⟩ (fun zq => absurd zq.1 (by decide)))]; exact hh23
      have hh33 : M27 (g.1 0 ((σ.1 5 (σ.1 12 (σ.1 18 ja))) / 3)) = some (.inr (1, [.long (lI (σ.2 0 ((σ.1 5 (σ.1 12 (σ.1 18 ja))) / 3))), .long (lI (σ.2 1 ((σ.1 5 (σ.1 12 (σ.1 18 ja))) / 3)))])) := by rw [eM27, mu_ne _ _ (hG.ne ⟨hpr 0 (by decide), (div3 (hwf.2.2.2.2.1 _ (hwf.2.2.2.2.2.2.1 _ (hwf.2.2.2.2.2.2.2.2 _ hja).2.1).1).1)⟩ ⟨hpr 3 (by decide), hja⟩ (fun zq => absurd zq.1 (by decide)))]; exact hh24
      have hh34 : M27 (g.1 0 ((σ.1 6 (σ.1 12 (σ.1 18 ja))) % 4)) = some (.inr (1, [.long (lI (σ.2 0 ((σ.1 6 (σ.1 12 (σ.1 18 ja))) % 4))), .long (lI (σ.2 1 ((σ.1 6 (σ.1 12 (σ.1 18 ja))) % 4)))])) := by rw [eM27, mu_ne _ _ (hG.ne ⟨hpr 0 (by decide), (Nat.mod_lt (σ.1 6 (σ.1 12 (σ.1 18 ja))) (by decide))⟩ ⟨hpr 3 (by decide), hja⟩ (fun zq => absurd zq.1 (by decide)))]; exact hh25
      have hh35 : M27 (g.1 3 ja) = some (.inr (4, [.int (nI ja), .ref (g.1 1 (σ.1 18 ja)), .int (nI (σ.1 19 ja)), .int (nI 1), .int (nI ((tD σ) + 10))])) := by rw [eM27]; exact mu_self _ _ _
      refine lv_aload_n hx hb dX7_answer_37 rfl (lv_at hl 0 rfl) ?_
      refine m_Sv (As := [.ref (g.1 3 ja)]) (rest := []) X Y hA hcx (c_pbts l D kc A e0 M27 (g.1 3 ja) (g.1 1 (σ.1 18 ja)) (g.1 5 (σ.1 12 (σ.1 18 ja))) (g.1 2 (σ.1 5 (σ.1 12 (σ.1 18 ja)))) (g.1 6 (σ.1 6 (σ.1 12 (σ.1 18 ja)))) (g.1 0 ((σ.1 6 (σ.1 12 (σ.1 18 ja))) % 4)) (g.1 0 ((σ.1 5 (σ.1 12 (σ.1 18 ja))) / 3)) (g.1 4 (σ.1 1 (σ.1 6 (σ.1 12 (σ.1 18 ja))))) (σ.1 19 ja) (σ.1 13 (σ.1 18 ja)) (σ.1 14 (σ.1 18 ja)) (σ.1 15 (σ.1 18 ja)) (σ.1 7 (σ.1 12 (σ.1 18 ja))) (σ.1 9 (σ.1 12 (σ.1 18 ja))) (σ.1 8 (σ.1 12 (σ.1 18 ja))) (σ.1 10 (σ.1 12 (σ.1 18 ja))) (nI ja) (nI (σ.1 18 ja)) (nI (σ.1 12 (σ.1 18 ja))) (nI (σ.1 5 (σ.1 12 (σ.1 18 ja)))) (nI (σ.1 6 (σ.1 12 (σ.1 18 ja)))) (nI 1) (nI ((tD σ) + 10)) (lI (σ.2 0 ((σ.1 5 (σ.1 12 (σ.1 18 ja))) / 3))) (lI (σ.2 1 ((σ.1 5 (σ.1 12 (σ.1 18 ja))) / 3))) (lI (σ.2 0 ((σ.1 6 (σ.1 12 (σ.1 18 ja))) % 4))) (lI (σ.2 1 ((σ.1 6 (σ.1 12 (σ.1 18 ja))) % 4))) hh35 hh29 hh30 hh31 hh32 hh33 hh34) (va_cwS 1 X.1.2.2.2.2 gX7_answer_X7_payBackToShop rfl rfl rfl (by decide +kernel) ⟨Nat.le_of_ble_eq_true rfl, Nat.le_of_ble_eq_true rfl⟩) rfl rfl hl.1 (Nat.le_of_ble_eq_true rfl) dX7_answer_38 ⟨by decide, by decide⟩ (fun M36 H locs p37 Y => ?_)
      have hG9 := (hG.setCb (hpr 3 (by decide)) (i := ja) (v := 1) (w := tD σ + 10) hja).pay (hpr 0 (by decide)) (a := cBk σ (σ.1 18 ja)) (b := sBk σ (σ.1 18 ja)) (v := σ.1 19 ja) (div3 (hwf.2.2.2.2.1 _ (hwf.2.2.2.2.2.2.1 _ (hwf.2.2.2.2.2.2.2.2 _ hja).2.1).1).1) (Nat.mod_lt _ (by decide)) (by omega)
      replace hG9 : G pr kc e0 (ansS σ ja) τ th o g M36 := by rw [p37, eM27, eM18, mu_mu]; exact hG9
      have fk38 : M36 (g.1 3 ja) = some (.inr (4, [.int (nI ja), .ref (g.1 1 (σ.1 18 ja)), .int (nI (σ.1 19 ja)), .int (nI 1), .int (nI (tD σ + 10))])) := by have z9 := hG9.f3 (hpr 3 (by decide)) hja; simpa [ansS, up2, cbl] using z9
      refine lv_aload_n hx hb dX7_answer_41 rfl (lv_at hl 0 rfl) ?_
      refine m_get (ref := "CardPort$Chargeback") (C := RX3) (T := TX3) (N := 5) (ci := 4) X Y htX7_answer_wsX301 fk38 rfl 4 (by decide) kwX7_answer_3 rfl (v := .int (nI (tD σ + 10))) rfl dX7_answer_42 ?_
      refine vx_ret (m_iret X Y hr hlocks (by decide) (by decide) ?_ dX7_answer_45)
      exact PC_i (by simp only [sp_answer, hva, ix_nI hla, Bool.and_self, Bool.and_true, Bool.and_false, Bool.false_and, Bool.true_and, Bool.false_eq_true, reduceIte]; rw [if_pos hst9]) (KG.rf g) hG9
theorem kwX7_press_1 : Cond.fieldLink RX7 184 "CardPort$Chargeback" "stage" "I" ∈ wsX7_press := List.mem_of_getElem? (i := 1) rfl
theorem htX7_press_wsX301 : ∀ w ∈ wsX30, w ∈ wsX7_press := fun _ h => List.mem_cons_of_mem _ (List.mem_append_left _ (List.mem_append_left _ (List.mem_append_left _ (List.mem_append_left _ (List.mem_append_left _ (List.mem_append_left _ (List.mem_append_left _ (List.mem_append_left _ (List.mem_append_left _ (List.mem_append_right _ h))))))))))
theorem kwX7_press_2 : Cond.fieldLink RX7 187 "CardPort$Chargeback" "lastDay" "I" ∈ wsX7_press := List.mem_of_getElem? (i := 2) rfl
theorem kwX7_press_3 : Cond.fieldLink RX7 194 "CardPort$Chargeback" "capture" "LCardPort$Capture;" ∈ wsX7_press := List.mem_of_getElem? (i := 3) rfl
theorem kwX7_press_4 : Cond.fieldLink RX7 198 "CardPort$Chargeback" "amount" "I" ∈ wsX7_press := List.mem_of_getElem? (i := 4) rfl
set_option maxHeartbeats 4000000 in
set_option maxRecDepth 100000 in
theorem c_X7_press (l : Launch) (hlt : l.stackTraces = false) (D : va_G) (kc : Nat → ClassId) (A : Nat → Prop) (e0 : Nat × Nat) (M : Mp) {pr : Nat → Prop} {σ τ : Sg} {th : Int32} {o : Int64} {g : Gh} {nn : Nat} (hG : G pr kc e0 σ τ th o g M) (hwf : WS nn σ) (hpr : ∀ t, t ≤ 10 → pr t) (a : Int32) : vx_Met l yX7_press wsX7_press ({ frames := 8, cells := 12, slots := 320, locals := 300 }) (mPre D kc A e0 M [.ref (g.1 7 0), .int a]) (va_Qi (PC pr kc e0 τ th o g (sp_press σ a)) (mB D A) A) (mXC D A (xP M [1, 3] (sp_press σ a).1)) 12 320 A := by
  refine vx_ofW (cc := cX7_press) (maxL := 3) (ret := (some .int)) (by decide) rfl ?_
  intro p e s m args below meth c s₁ B hml htab hv
  obtain ⟨rfl, hw, hK, hA, hcx⟩ := hv
  have X : mX p s m _ c cX7_press 3 RX7 wsX7_press D kc := ⟨⟨B.exec, B.bytes, hml, findClass_of_methodNamed B.named, atoms_spec (ws := wsX7_press) B.pre⟩, hK⟩
  have hx := B.exec
  have hb := B.bytes
  have hr := B.returns
  have hlocks := B.notSynchronized
  have Y : mY D A M s s.heap [] := ⟨hw, va_S.rf⟩
  have hl := lv_entry ([.ref (g.1 7 0), .int a]) (n := 3) (Nat.le_of_ble_eq_true rfl)
  rw [lg_entry_eq]
  generalize (lg_sl ([.ref (g.1 7 0), .int a]) ++ List.replicate (3 - (lg_sl ([.ref (g.1 7 0), .int a])).length) Slot.unset).toArray = ls at hl ⊢
  have hl : lv_has ls 3 [(0, .ref (g.1 7 0)), (1, .int a)] := hl
  have hwn := hwf.2.2.2.1
  have hwd := hwf.1
  refine lv_aload_n hx hb dX7_press_0 rfl (lv_at hl 0 rfl) ?_
  refine lv_iload_n hx hb dX7_press_1 rfl (lv_at hl 1 rfl) ?_
  cases hva : vI a (nB σ) with
  | false =>
    have hg1 := hG.f7 (hpr 7 (by decide))
    refine m_xVq (As := [.int a]) (rest := []) X Y hA hcx (c_chargebackAt_bad l hlt D kc A e0 M hG hwf hpr a (vI_f hva (by omega))) (cwV 1 X.1.2.2.2.2 gX7_press_X7_chargebackAt rfl rfl rfl (by decide +kernel) ⟨Nat.le_of_ble_eq_true rfl, Nat.le_of_ble_eq_true rfl⟩) hg1 rfl rfl rfl hl.1 (Nat.le_of_ble_eq_true rfl) dX7_press_2 ⟨by decide, by decide⟩ htab hlocks (by decide) (by decide) (fun u hu => xP_i (k := 0) (z := 1) (by simp only [sp_press, hva, Bool.and_self, Bool.and_true, Bool.and_false, Bool.false_and, Bool.true_and, Bool.false_eq_true, reduceIte]) rfl hu) (fun r2 M3 H locs p4 Y => ?_)
    exact p4.elim
  | true =>
    obtain ⟨ja, hja, hla, rfl⟩ := vI_t hva
    have hia := ix_nI hla
    have hg5 := hG.f7 (hpr 7 (by decide))
    refine m_rxVq (As := [.int (nI ja)]) (rest := []) X Y hA hcx (c_chargebackAt l hlt D kc A e0 M hG hwf hpr ja hja) (cwV 1 X.1.2.2.2.2 gX7_press_X7_chargebackAt rfl rfl rfl (by decide +kernel) ⟨Nat.le_of_ble_eq_true rfl, Nat.le_of_ble_eq_true rfl⟩) hg5 rfl rfl rfl hl.1 (Nat.le_of_ble_eq_true rfl) dX7_press_2 ⟨by decide, by decide⟩ htab hlocks (by decide) (by decide) (fun u h => h.elim) (fun H locs Y => ?_)
    refine lv_astore_n (lv' := [(2, .ref (g.1 3 ja)), (0, .ref (g.1 7 0)), (1, .int (nI ja))]) hx hb dX7_press_5 rfl hl (by decide) rfl (fun ls hl => ?_)
    refine lv_aload_n hx hb dX7_press_6 rfl (lv_at hl 0 rfl) ?_
    have hg6 := hG.f3 (hpr 3 (by decide)) hja
    have hw7 := hwf.2.2.2.2.2.2.2.2 _ hja
    refine m_get (ref := "CardPort$Chargeback") (C := RX3) (T := TX3) (N := 5) (ci := 4) X Y htX7_press_wsX301 hg6 rfl 3 (by decide) kwX7_press_1 rfl (v := .int (nI (σ.1 17 ja))) rfl dX7_press_7 ?_
    refine n_iconst hx hb 1 dX7_press_10 (by decide) ?_
    refine n_icmp_ne hx hb 18 (by omega) (by omega) dX7_press_11 (by decide) (fun c11 => ?_) (fun c11 => ?_)
    · refine n_iconst hx hb 0 dX7_press_18 (by decide) ?_
      refine m_xSv (As := [.int (nI 0)]) (rest := []) X Y hA hcx (c_rp_bad l hlt D kc A e0 M ) (va_cwS 1 X.1.2.2.2.2 gX7_press_X7_requirePossible rfl rfl rfl (by decide +kernel) ⟨Nat.le_of_ble_eq_true rfl, Nat.le_of_ble_eq_true rfl⟩) rfl rfl hl.1 (Nat.le_of_ble_eq_true rfl) dX7_press_19 ⟨by decide, by decide⟩ htab hlocks (by decide) (by decide) (fun u hu => xP_i (k := 1) (z := 3) (by simp only [sp_press, hva, ix_nI hla, Bool.and_self, Bool.and_true, Bool.and_false, Bool.false_and, Bool.true_and, Bool.false_eq_true, reduceIte]; rw [if_neg (by omega)]) rfl hu) (fun M8 H locs p9 Y => ?_)
      exact p9.elim
    · refine n_iconst hx hb 1 dX7_press_14 (by decide) ?_
      refine lv_goto (tgt := 19) hx hb dX7_press_15 (by decide) ?_
      refine m_rxSv (As := [.int (nI 1)]) (rest := []) X Y hA hcx (c_rp_ok l hlt D kc A e0 M ) (va_cwS 1 X.1.2.2.2.2 gX7_press_X7_requirePossible rfl rfl rfl (by decide +kernel) ⟨Nat.le_of_ble_eq_true rfl, Nat.le_of_ble_eq_true rfl⟩) rfl rfl hl.1 (Nat.le_of_ble_eq_true rfl) dX7_press_19 ⟨by decide, by decide⟩ htab hlocks (by decide) (by decide) (fun u h => h.elim) (fun H locs Y => ?_)
      have hg10 := hG.f1 (hpr 1 (by decide)) (hwf.2.2.2.2.2.2.2.2 _ hja).2.1
      have hw11 := hwf.2.2.2.2.2.2.1 _ (hwf.2.2.2.2.2.2.2.2 _ hja).2.1
      have hg12 := hG.f5 (hpr 5 (by decide)) (hwf.2.2.2.2.2.2.1 _ (hwf.2.2.2.2.2.2.2.2 _ hja).2.1).1
      have hw13 := hwf.2.2.2.2.1 _ (hwf.2.2.2.2.2.2.1 _ (hwf.2.2.2.2.2.2.2.2 _ hja).2.1).1
      have hg14 := hG.f2 (hpr 2 (by decide)) (hwf.2.2.2.2.1 _ (hwf.2.2.2.2.2.2.1 _ (hwf.2.2.2.2.2.2.2.2 _ hja).2.1).1).1
      have hg15 := hG.f6 (hpr 6 (by decide)) (hwf.2.2.2.2.1 _ (hwf.2.2.2.2.2.2.1 _ (hwf.2.2.2.2.2.2.2.2 _ hja).2.1).1).2.1
      have hg16 := hG.f0 (hpr 0 (by decide)) (div3 (hwf.2.2.2.2.1 _ (hwf.2.2.2.2.2.2.1 _ (hwf.2.2.2.2.2.2.2.2 _ hja).2.1).1).1)
      have hg17 := hG.f0 (hpr 0 (by decide)) (Nat.mod_lt (σ.1 6 (σ.1 12 (σ.1 18 ja))) (by decide))
      have hst9 : σ.1 17 ja = 1 := by omega
      refine lv_aload_n hx hb dX7_press_22 rfl (lv_at hl 0 rfl) ?_
      refine n_iconst hx hb 2 dX7_press_23 (by decide) ?_
      refine m_put (ref := "CardPort$Chargeback") (C := RX3) (T := TX3) (N := 5) (ci := 4) X Y htX7_press_wsX301 tyX3 tyX3_ok nmX3 hg6 rfl 3 (by decide) kwX7_press_1 rfl rfl (v := .int (nI 2)) rfl rfl (Nat.le_of_ble_eq_true rfl) dX7_press_24 (fun H locs Y => ?_)
      obtain ⟨M18, eM18⟩ : ∃ zz9 : Mp, zz9 = mu M (g.1 3 ja) (.inr (4, [.int (nI ja), .ref (g.1 1 (σ.1 18 ja)), .int (nI (σ.1 19 ja)), .int (nI 2), .int (cbl (σ.1 17 ja) (σ.1 20 ja))])) := ⟨_, rfl⟩
      replace Y : mY D A M18 s H locs := by rw [eM18]; exact Y
      have hh19 : M18 (g.1 7 0) = some (.inr (8, [.ref (g.1 8 0), .ref (g.1 8 1), .ref (g.1 8 2), .ref (g.1 8 3), .ref (g.1 9 0), .ref (g.1 9 1), .ref (g.1 9 2), .int (nI (tD σ))])) := by rw [eM18, mu_ne _ _ (hG.ne ⟨hpr 7 (by decide), rfl⟩ ⟨hpr 3 (by decide), hja⟩ (fun zq => absurd zq.1 (by decide)))]; exact hg5
      have hh20 : M18 (g.1 1 (σ.1 18 ja)) = some (.inr (2, [.int (nI (σ.1 18 ja)), .ref (g.1 5 (σ.1 12 (σ.1 18 ja))), .int (nI (σ.1 13 (σ.1 18 ja))), .int (nI (σ.1 14 (σ.1 18 ja))), .int (nI (σ.1 15 (σ.1 18 ja)))])) := by rw [eM18, mu_ne _ _ (hG.ne ⟨hpr 1 (by decide), (hwf.2.2.2.2.2.2.2.2 _ hja).2.1⟩ ⟨hpr 3 (by decide), hja⟩ (fun zq => absurd zq.1 (by decide)))]; exact hg10
      have hh21 : M18 (g.1 5 (σ.1 12 (σ.1 18 ja))) = some (.inr (6, [.int (nI (σ.1 12 (σ.1 18 ja))), .ref (g.1 2 (σ.1 5 (σ.1 12 (σ.1 18 ja)))), .ref (g.1 6 (σ.1 6 (σ.1 12 (σ.1 18 ja)))), .int (nI (σ.1 7 (σ.1 12 (σ.1 18 ja)))), .int (nI (σ.1 9 (σ.1 12 (σ.1 18 ja)))), .int (nI (σ.1 8 (σ.1 12 (σ.1 18 ja)))), .int (nI (σ.1 10 (σ.1 12 (σ.1 18 ja))))])) := by rw [eM18, mu_ne _ _ (hG.ne ⟨hpr 5 (by decide), (hwf.2.2.2.2.2.2.1 _ (hwf.2.2.2.2.2.2.2.2 _ hja).2.1).1⟩ ⟨hpr 3 (by decide), hja⟩ (fun zq => absurd zq.1 (by decide)))]; exact hg12
      have hh22 : M18 (g.1 2 (σ.1 5 (σ.1 12 (σ.1 18 ja)))) = some (.inr (3, [.int (nI (σ.1 5 (σ.1 12 (σ.1 18 ja)))), .ref (g.1 0 ((σ.1 5 (σ.1 12 (σ.1 18 ja))) / 3))])) := by rw [eM18, mu_ne _ _ (hG.ne ⟨hpr 2 (by decide), (hwf.2.2.2.2.1 _ (hwf.2.2.2.2.2.2.1 _ (hwf.2.2.2.2.2.2.2.2 _ hja).2.1).1).1⟩ ⟨hpr 3 (by decide), hja⟩ (fun zq => absurd zq.1 (by decide)))]; exact hg14
      have hh23 : M18 (g.1 6 (σ.1 6 (σ.1 12 (σ.1 18 ja)))) = some (.inr (7, [.int (nI (σ.1 6 (σ.1 12 (σ.1 18 ja)))), .ref (g.1 0 ((σ.1 6 (σ.1 12 (σ.1 18 ja))) % 4)), .ref (g.1 4 (σ.1 1 (σ.1 6 (σ.1 12 (σ.1 18 ja)))))])) := by rw [eM18, mu_ne _ _ (hG.ne ⟨hpr 6 (by decide), (hwf.2.2.2.2.1 _ (hwf.2.2.2.2.2.2.1 _ (hwf.2.2.2.2.2.2.2.2 _ hja).2.1).1).2.1⟩ ⟨hpr 3 (by decide), hja⟩ (fun zq => absurd zq.1 (by decide)))]; exact hg15
      have hh24 : M18 (g.1 0 ((σ.1 5 (σ.1 12 (σ.1 18 ja))) / 3)) = some (.inr (1, [.long (lI (σ.2 0 ((σ.1 5 (σ.1 12 (σ.1 18 ja))) / 3))), .long (lI (σ.2 1 ((σ.1 5 (σ.1 12 (σ.1 18 ja))) / 3)))])) := by rw [eM18, mu_ne _ _ (hG.ne ⟨hpr 0 (by decide), (div3 (hwf.2.2.2.2.1 _ (hwf.2.2.2.2.2.2.1 _ (hwf.2.2.2.2.2.2.2.2 _ hja).2.1).1).1)⟩ ⟨hpr 3 (by decide), hja⟩ (fun zq => absurd zq.1 (by decide)))]; exact hg16
      have hh25 : M18 (g.1 0 ((σ.1 6 (σ.1 12 (σ.1 18 ja))) % 4)) = some (.inr (1, [.long (lI (σ.2 0 ((σ.1 6 (σ.1 12 (σ.1 18 ja))) % 4))), .long (lI (σ.2 1 ((σ.1 6 (σ.1 12 (σ.1 18 ja))) % 4)))])) := by rw [eM18, mu_ne _ _ (hG.ne ⟨hpr 0 (by decide), (Nat.mod_lt (σ.1 6 (σ.1 12 (σ.1 18 ja))) (by decide))⟩ ⟨hpr 3 (by decide), hja⟩ (fun zq => absurd zq.1 (by decide)))]; exact hg17
      have hh26 : M18 (g.1 3 ja) = some (.inr (4, [.int (nI ja), .ref (g.1 1 (σ.1 18 ja)), .int (nI (σ.1 19 ja)), .int (nI 2), .int (cbl (σ.1 17 ja) (σ.1 20 ja))])) := by rw [eM18]; exact mu_self _ _ _
      refine lv_aload_n hx hb dX7_press_27 rfl (lv_at hl 0 rfl) ?_
      refine lv_iconst (v := -1) hx hb dX7_press_28 (by decide) ?_
      refine m_put (ref := "CardPort$Chargeback") (C := RX3) (T := TX3) (N := 5) (ci := 4) X Y htX7_press_wsX301 tyX3 tyX3_ok nmX3 hh26 rfl 4 (by decide) kwX7_press_2 rfl rfl (v := .int (-1)) rfl rfl (Nat.le_of_ble_eq_true rfl) dX7_press_29 (fun H locs Y => ?_)
      obtain ⟨M27, eM27⟩ : ∃ zz9 : Mp, zz9 = mu M18 (g.1 3 ja) (.inr (4, [.int (nI ja), .ref (g.1 1 (σ.1 18 ja)), .int (nI (σ.1 19 ja)), .int (nI 2), .int (-1)])) := ⟨_, rfl⟩
      replace Y : mY D A M27 s H locs := by rw [eM27]; exact Y
      have hh28 : M27 (g.1 7 0) = some (.inr (8, [.ref (g.1 8 0), .ref (g.1 8 1), .ref (g.1 8 2), .ref (g.1 8 3), .ref (g.1 9 0), .ref (g.1 9 1), .ref (g.1 9 2), .int (nI (tD σ))])) := by rw [eM27, mu_ne _ _ (hG.ne ⟨hpr 7 (by decide), rfl⟩ ⟨hpr 3 (by decide), hja⟩ (fun zq => absurd zq.1 (by decide)))]; exact hh19
      have hh29 : M27 (g.1 1 (σ.1 18 ja)) = some (.inr (2, [.int (nI (σ.1 18 ja)), .ref (g.1 5 (σ.1 12 (σ.1 18 ja))), .int (nI (σ.1 13 (σ.1 18 ja))), .int (nI (σ.1 14 (σ.1 18 ja))), .int (nI (σ.1 15 (σ.1 18 ja)))])) := by rw [eM27, mu_ne _ _ (hG.ne ⟨hpr 1 (by decide), (hwf.2.2.2.2.2.2.2.2 _ hja).2.1⟩ ⟨hpr 3 (by decide), hja⟩ (fun zq => absurd zq.1 (by decide)))]; exact hh20
      have hh30 : M27 (g.1 5 (σ.1 12 (σ.1 18 ja))) = some (.inr (6, [.int (nI (σ.1 12 (σ.1 18 ja))), .ref (g.1 2 (σ.1 5 (σ.1 12 (σ.1 18 ja)))), .ref (g.1 6 (σ.1 6 (σ.1 12 (σ.1 18 ja)))), .int (nI (σ.1 7 (σ.1 12 (σ.1 18 ja)))), .int (nI (σ.1 9 (σ.1 12 (σ.1 18 ja)))), .int (nI (σ.1 8 (σ.1 12 (σ.1 18 ja)))), .int (nI (σ.1 10 (σ.1 12 (σ.1 18 ja))))])) := by rw [eM27, mu_ne _ _ (hG.ne ⟨hpr 5 (by decide), (hwf.2.2.2.2.2.2.1 _ (hwf.2.2.2.2.2.2.2.2 _ hja).2.1).1⟩ ⟨hpr 3 (by decide), hja⟩ (fun zq => absurd zq.1 (by decide)))]; exact hh21
      have hh31 : M27 (g.1 2 (σ.1 5 (σ.1 12 (σ.1 18 ja)))) = some (.inr (3, [.int (nI (σ.1 5 (σ.1 12 (σ.1 18 ja)))), .ref (g.1 0 ((σ.1 5 (σ.1 12 (σ.1 18 ja))) / 3))])) := by rw [eM27, mu_ne _ _ (hG.ne ⟨hpr 2 (by decide), (hwf.2.2.2.2.1 _ (hwf.2.2.2.2.2.2.1 _ (hwf.2.2.2.2.2.2.2.2 _ hja).2.1).1).1⟩ ⟨hpr 3 (by decide), hja⟩ (fun zq => absurd zq.1 (by decide)))]; exact hh22
      have hh32 : M27 (g.1 6 (σ.1 6 (σ.1 12 (σ.1 18 ja)))) = some (.inr (7, [.int (nI (σ.1 6 (σ.1 12 (σ.1 18 ja)))), .ref (g.1 0 ((σ.1 6 (σ.1 12 (σ.1 18 ja))) % 4)), .ref (g.1 4 (σ.1 1 (σ.1 6 (σ.1 12 (σ.1 18 ja)))))])) := by rw [eM27, mu_ne _ _ (hG.ne ⟨hpr 6 (by decide), (hwf.2.2.2.2.1 _ (hwf.2.2.2.2.2.2.1 _ (hwf.2.2.2.2.2.2.2.2 _ hja).2.1).1).2.1⟩ ⟨hpr 3 (by decide), hja⟩ (fun zq => absurd zq.1 (by decide)))]; exact hh23
      have hh33 : M27 (g.1 0 ((σ.1 5 (σ.1 12 (σ.1 18 ja))) / 3)) = some (.inr (1, [.long (lI (σ.2 0 ((σ.1 5 (σ.1 12 (σ.1 18 ja))) / 3))), .long (lI (σ.2 1 ((σ.1 5 (σ.1 12 (σ.1 18 ja))) / 3)))])) := by rw [eM27, mu_ne _ _ (hG.ne ⟨hpr 0 (by decide), (div3 (hwf.2.2.2.2.1 _ (hwf.2.2.2.2.2.2.1 _ (hwf.2.2.2.2.2.2.2.2 _ hja).2.1).1).1)⟩ ⟨hpr 3 (by decide), hja⟩ (fun zq => absurd zq.1 (by decide)))]; exact hh24
      have hh34 : M27 (g.1 0 ((σ.1 6 (σ.1 12 (σ.1 18 ja))) % 4)) = some (.inr (1, [.long (lI (σ.2 0 ((σ.1 6 (σ.1 12 (σ.1 18 ja))) % 4))), .long (lI (σ.2 1 ((σ.1 6 (σ.1 12 (σ.1 18 ja))) % 4)))])) := by rw [eM27, mu_ne _ _ (hG.ne ⟨hpr 0 (by decide), (Nat.mod_lt (σ.1 6 (σ.1 12 (σ.1 18 ja))) (by decide))⟩ ⟨hpr 3 (by decide), hja⟩ (fun zq => absurd zq.1 (by decide)))]; exact hh25
      have hh35 : M27 (g.1 3 ja) = some (.inr (4, [.int (nI ja), .ref (g.1 1 (σ.1 18 ja)), .int (nI (σ.1 19 ja)), .int (nI 2), .int (-1)])) := by rw [eM27]; exact mu_self _ _ _
      refine lv_aload_n hx hb dX7_press_32 rfl (lv_at hl 0 rfl) ?_
      refine m_get (ref := "CardPort$Chargeback") (C := RX3) (T := TX3) (N := 5) (ci := 4) X Y htX7_press_wsX301 hh35 rfl 1 (by decide) kwX7_press_3 rfl (v := .ref (g.1 1 (σ.1 18 ja))) rfl dX7_press_33 ?_
      refine m_rVq (As := []) (rest := []) X Y hA hcx (c_X1_shopBank l D kc A e0 M27 (g.1 1 (σ.1 18 ja)) (g.1 5 (σ.1 12 (σ.1 18 ja))) (g.1 2 (σ.1 5 (σ.1 12 (σ.1 18 ja)))) (g.1 6 (σ.1 6 (σ.1 12 (σ.1 18 ja)))) (g.1 0 ((σ.1 6 (σ.1 12 (σ.1 18 ja))) % 4)) (g.1 4 (σ.1 1 (σ.1 6 (σ.1 12 (σ.1 18 ja))))) (σ.1 13 (σ.1 18 ja)) (σ.1 14 (σ.1 18 ja)) (σ.1 15 (σ.1 18 ja)) (σ.1 7 (σ.1 12 (σ.1 18 ja))) (σ.1 9 (σ.1 12 (σ.1 18 ja))) (σ.1 8 (σ.1 12 (σ.1 18 ja))) (σ.1 10 (σ.1 12 (σ.1 18 ja))) (nI (σ.1 18 ja)) (nI (σ.1 12 (σ.1 18 ja))) (nI (σ.1 6 (σ.1 12 (σ.1 18 ja)))) hh29 hh30 hh32) (cwV 0 X.1.2.2.2.2 gX7_press_X1_shopBank rfl rfl rfl (by decide +kernel) ⟨Nat.le_of_ble_eq_true rfl, Nat.le_of_ble_eq_true rfl⟩) hh29 rfl rfl rfl hl.1 (Nat.le_of_ble_eq_true rfl) dX7_press_36 ⟨by decide, by decide⟩ (fun H locs Y => ?_)
      refine lv_aload_n hx hb dX7_press_39 rfl (lv_at hl 0 rfl) ?_
      refine m_get (ref := "CardPort$Chargeback") (C := RX3) (T := TX3) (N := 5) (ci := 4) X Y htX7_press_wsX301 hh35 rfl 1 (by decide) kwX7_press_3 rfl (v := .ref (g.1 1 (σ.1 18 ja))) rfl dX7_press_40 ?_
      refine m_rVq (As := []) (rest := [.ref (g.1 0 ((σ.1 6 (σ.1 12 (σ.1 18 ja))) % 4))]) X Y hA hcx (c_X1_cardBank l D kc A e0 M27 (g.1 1 (σ.1 18 ja)) (g.1 5 (σ.1 12 (σ.1 18 ja))) (g.1 2 (σ.1 5 (σ.1 12 (σ.1 18 ja)))) (g.1 6 (σ.1 6 (σ.1 12 (σ.1 18 ja)))) (g.1 0 ((σ.1 5 (σ.1 12 (σ.1 18 ja))) / 3)) (σ.1 13 (σ.1 18 ja)) (σ.1 14 (σ.1 18 ja)) (σ.1 15 (σ.1 18 ja)) (σ.1 7 (σ.1 12 (σ.1 18 ja))) (σ.1 9 (σ.1 12 (σ.1 18 ja))) (σ.1 8 (σ.1 12 (σ.1 18 ja))) (σ.1 10 (σ.1 12 (σ.1 18 ja))) (nI (σ.1 18 ja)) (nI (σ.1 12 (σ.1 18 ja))) (nI (σ.1 5 (σ.1 12 (σ.1 18 ja)))) hh29 hh30 hh31) (cwV 0 X.1.2.2.2.2 gX7_press_X1_cardBank rfl rfl rfl (by decide +kernel) ⟨Nat.le_of_ble_eq_true rfl, Nat.le_of_ble_eq_true rfl⟩) hh29 rfl rfl rfl hl.1 (Nat.le_of_ble_eq_true rfl) dX7_press_43 ⟨by decide, by decide⟩ (fun H locs Y => ?_)
      refine lv_aload_n hx hb dX7_press_46 rfl (lv_at hl 0 rfl) ?_
      refine m_get (ref := "CardPort$Chargeback") (C := RX3) (T := TX3) (N := 5) (ci := 4) X Y htX7_press_wsX301 hh35 rfl 2 (by decide) kwX7_press_4 rfl (v := .int (nI (σ.1 19 ja))) rfl dX7_press_47 ?_
      refine m_Vv (As := [.ref (g.1 0 ((σ.1 5 (σ.1 12 (σ.1 18 ja))) / 3)), .int (nI (σ.1 19 ja))]) (rest := []) X Y hA hcx (c_X0_pay l D kc A e0 M27 (g.1 0 ((σ.1 6 (σ.1 12 (σ.1 18 ja))) % 4)) (g.1 0 ((σ.1 5 (σ.1 12 (σ.1 18 ja))) / 3)) (lI (σ.2 0 ((σ.1 6 (σ.1 12 (σ.1 18 ja))) % 4))) (lI (σ.2 1 ((σ.1 6 (σ.1 12 (σ.1 18 ja))) % 4))) (lI (σ.2 0 ((σ.1 5 (σ.1 12 (σ.1 18 ja))) / 3))) (lI (σ.2 1 ((σ.1 5 (σ.1 12 (σ.1 18 ja))) / 3))) (nI (σ.1 19 ja)) hh34 hh33) (cwV 2 X.1.2.2.2.2 gX7_press_X0_pay rfl rfl rfl (by decide +kernel) ⟨Nat.le_of_ble_eq_true rfl, Nat.le_of_ble_eq_true rfl⟩) hh34 rfl rfl rfl hl.1 (Nat.le_of_ble_eq_true rfl) dX7_press_50 ⟨by decide, by decide⟩ (fun M36 H locs p37 Y => ?_)
      have hG9 := (hG.setSt (hpr 3 (by decide)) (i := ja) (v := 2) hja).pay (hpr 0 (by decide)) (a := sBk σ (σ.1 18 ja)) (b := cBk σ (σ.1 18 ja)) (v := σ.1 19 ja) (Nat.mod_lt _ (by decide)) (div3 (hwf.2.2.2.2.1 _ (hwf.2.2.2.2.2.2.1 _ (hwf.2.2.2.2.2.2.2.2 _ hja).2.1).1).1) (by omega)
      replace hG9 : G pr kc e0 (prsS σ ja) τ th o g M36 := by rw [p37, eM27, eM18, mu_mu]; exact hG9
      have hwf9 : WS nn (prsS σ ja) := WS_st1 hwf hja (by omega) (by decide)
      refine lv_aload_n hx hb dX7_press_53 rfl (lv_at hl 1 rfl) ?_
      have hq7 := hG9.f7 (hpr 7 (by decide))
      refine m_rVi (As := []) (rest := []) X Y hA hcx (c_cp l D kc A e0 M36 hG9 hwf9 hpr) (cwV 0 X.1.2.2.2.2 gX7_press_X7_countPressed rfl rfl rfl (by decide +kernel) ⟨Nat.le_of_ble_eq_true rfl, Nat.le_of_ble_eq_true rfl⟩) hq7 rfl rfl rfl hl.1 (Nat.le_of_ble_eq_true rfl) dX7_press_54 ⟨by decide, by decide⟩ (fun H locs Y => ?_)
      refine vx_ret (m_iret X Y hr hlocks (by decide) (by decide) ?_ dX7_press_57)
      exact PC_i (by simp only [sp_press, hva, ix_nI hla, Bool.and_self, Bool.and_true, Bool.and_false, Bool.false_and, Bool.true_and, Bool.false_eq_true, reduceIte]; rw [if_pos hst9]; rfl) (KG.rf g) hG9
theorem kwX7_rule_1 : Cond.fieldLink RX7 184 "CardPort$Chargeback" "stage" "I" ∈ wsX7_rule := List.mem_of_getElem? (i := 1) rfl
theorem htX7_rule_wsX301 : ∀ w ∈ wsX30, w ∈ wsX7_rule := fun _ h => List.mem_cons_of_mem _ (List.mem_append_left _ (List.mem_append_left _ (List.mem_append_left _ (List.mem_append_left _ (List.mem_append_left _ (List.mem_append_left _ (List.mem_append_left _ (List.mem_append_left _ (List.mem_append_left _ (List.mem_append_right _ h))))))))))
set_option maxHeartbeats 4000000 in
set_option maxRecDepth 100000 in
theorem c_X7_rule (l : Launch) (hlt : l.stackTraces = false) (D : va_G) (kc : Nat → ClassId) (A : Nat → Prop) (e0 : Nat × Nat) (M : Mp) {pr : Nat → Prop} {σ τ : Sg} {th : Int32} {o : Int64} {g : Gh} {nn : Nat} (hG : G pr kc e0 σ τ th o g M) (hwf : WS nn σ) (hpr : ∀ t, t ≤ 10 → pr t) (a : Int32) (b : Bool) : vx_Met l yX7_rule wsX7_rule ({ frames := 8, cells := 12, slots := 320, locals := 300 }) (mPre D kc A e0 M [.ref (g.1 7 0), .int a, .int (nI b.toNat)]) (va_Qi (PC pr kc e0 τ th o g (sp_rule σ a b)) (mB D A) A) (mXC D A (xP M [1, 3] (sp_rule σ a b).1)) 12 320 A := by
  refine vx_ofW (cc := cX7_rule) (maxL := 4) (ret := (some .int)) (by decide) rfl ?_
  intro p e s m args below meth c s₁ B hml htab hv
  obtain ⟨rfl, hw, hK, hA, hcx⟩ := hv
  have X : mX p s m _ c cX7_rule 4 RX7 wsX7_rule D kc := ⟨⟨B.exec, B.bytes, hml, findClass_of_methodNamed B.named, atoms_spec (ws := wsX7_rule) B.pre⟩, hK⟩
  have hx := B.exec
  have hb := B.bytes
  have hr := B.returns
  have hlocks := B.notSynchronized
  have Y : mY D A M s s.heap [] := ⟨hw, va_S.rf⟩
  have hl := lv_entry ([.ref (g.1 7 0), .int a, .int (nI b.toNat)]) (n := 4) (Nat.le_of_ble_eq_true rfl)
  rw [lg_entry_eq]
  generalize (lg_sl ([.ref (g.1 7 0), .int a, .int (nI b.toNat)]) ++ List.replicate (4 - (lg_sl ([.ref (g.1 7 0), .int a, .int (nI b.toNat)])).length) Slot.unset).toArray = ls at hl ⊢
  have hl : lv_has ls 4 [(0, .ref (g.1 7 0)), (1, .int a), (2, .int (nI b.toNat))] := hl
  have hwn := hwf.2.2.2.1
  have hwd := hwf.1
  refine lv_aload_n hx hb dX7_rule_0 rfl (lv_at hl 0 rfl) ?_
  refine lv_iload_n hx hb dX7_rule_1 rfl (lv_at hl 1 rfl) ?_
  cases hva : vI a (nB σ) with
  | false =>
    have hg1 := hG.f7 (hpr 7 (by decide))
    refine m_xVq (As := [.int a]) (rest := []) X Y hA hcx (c_chargebackAt_bad l hlt D kc A e0 M hG hwf hpr a (vI_f hva (by omega))) (cwV 1 X.1.2.2.2.2 gX7_rule_X7_chargebackAt rfl rfl rfl (by decide +kernel) ⟨Nat.le_of_ble_eq_true rfl, Nat.le_of_ble_eq_true rfl⟩) hg1 rfl rfl rfl hl.1 (Nat.le_of_ble_eq_true rfl) dX7_rule_2 ⟨by decide, by decide⟩ htab hlocks (by decide) (by decide) (fun u hu => xP_i (k := 0) (z := 1) (by simp only [sp_rule, hva, Bool.and_self, Bool.and_true, Bool.and_false, Bool.false_and, Bool.true_and, Bool.false_eq_true, reduceIte]) rfl hu) (fun r2 M3 H locs p4 Y => ?_)
    exact p4.elim
  | true =>
    obtain ⟨ja, hja, hla, rfl⟩ := vI_t hva
    have hia := ix_nI hla
    have hg5 := hG.f7 (hpr 7 (by decide))
    refine m_rxVq (As := [.int (nI ja)]) (rest := []) X Y hA hcx (c_chargebackAt l hlt D kc A e0 M hG hwf hpr ja hja) (cwV 1 X.1.2.2.2.2 gX7_rule_X7_chargebackAt rfl rfl rfl (by decide +kernel) ⟨Nat.le_of_ble_eq_true rfl, Nat.le_of_ble_eq_true rfl⟩) hg5 rfl rfl rfl hl.1 (Nat.le_of_ble_eq_true rfl) dX7_rule_2 ⟨by decide, by decide⟩ htab hlocks (by decide) (by decide) (fun u h => h.elim) (fun H locs Y => ?_)
    refine lv_astore_n (lv' := [(3, .ref (g.1 3 ja)), (0, .ref (g.1 7 0)), (1, .int (nI ja)), (2, .int (nI b.toNat))]) hx hb dX7_rule_5 rfl hl (by decide) rfl (fun ls hl => ?_)
    refine lv_aload_n hx hb dX7_rule_6 rfl (lv_at hl 0 rfl) ?_
    have hg6 := hG.f3 (hpr 3 (by decide)) hja
    have hw7 := hwf.2.2.2.2.2.2.2.2 _ hja
    refine m_get (ref := "CardPort$Chargeback") (C := RX3) (T := TX3) (N := 5) (ci := 4) X Y htX7_rule_wsX301 hg6 rfl 3 (by decide) kwX7_rule_1 rfl (v := .int (nI (σ.1 17 ja))) rfl dX7_rule_7 ?_
    refine n_iconst hx hb 2 dX7_rule_10 (by decide) ?_
    refine n_icmp_ne hx hb 18 (by omega) (by omega) dX7_rule_11 (by decide) (fun c11 => ?_) (fun c11 => ?_)
    · refine n_iconst hx hb 0 dX7_rule_18 (by decide) ?_
      refine m_xSv (As := [.int (nI 0)]) (rest := []) X Y hA hcx (c_rp_bad l hlt D kc A e0 M ) (va_cwS 1 X.1.2.2.2.2 gX7_rule_X7_requirePossible rfl rfl rfl (by decide +kernel) ⟨Nat.le_of_ble_eq_true rfl, Nat.le_of_ble_eq_true rfl⟩) rfl rfl hl.1 (Nat.le_of_ble_eq_true rfl) dX7_rule_19 ⟨by decide, by decide⟩ htab hlocks (by decide) (by decide) (fun u hu => xP_i (k := 1) (z := 3) (by simp only [sp_rule, hva, ix_nI hla, Bool.and_self, Bool.and_true, Bool.and_false, Bool.false_and, Bool.true_and, Bool.false_eq_true, reduceIte]; rw [if_neg (by omega)]) rfl hu) (fun M8 H locs p9 Y => ?_)
      exact p9.elim
    · refine n_iconst hx hb 1 dX7_rule_14 (by decide) ?_
      refine lv_goto (tgt := 19) hx hb dX7_rule_15 (by decide) ?_
      refine m_rxSv (As := [.int (nI 1)]) (rest := []) X Y hA hcx (c_rp_ok l hlt D kc A e0 M ) (va_cwS 1 X.1.2.2.2.2 gX7_rule_X7_requirePossible rfl rfl rfl (by decide +kernel) ⟨Nat.le_of_ble_eq_true rfl, Nat.le_of_ble_eq_true rfl⟩) rfl rfl hl.1 (Nat.le_of_ble_eq_true rfl) dX7_rule_19 ⟨by decide, by decide⟩ htab hlocks (by decide) (by decide) (fun u h => h.elim) (fun H locs Y => ?_)
      have hb9 := Bool.toNat_le b
      have hg10 := hG.f1 (hpr 1 (by decide)) (hwf.2.2.2.2.2.2.2.2 _ hja).2.1
      have hw11 := hwf.2.2.2.2.2.2.1 _ (hwf.2.2.2.2.2.2.2.2 _ hja).2.1
      have hg12 := hG.f5 (hpr 5 (by decide)) (hwf.2.2.2.2.2.2.1 _ (hwf.2.2.2.2.2.2.2.2 _ hja).2.1).1
      have hw13 := hwf.2.2.2.2.1 _ (hwf.2.2.2.2.2.2.1 _ (hwf.2.2.2.2.2.2.2.2 _ hja).2.1).1
      have hg14 := hG.f2 (hpr 2 (by decide)) (hwf.2.2.2.2.1 _ (hwf.2.2.2.2.2.2.1 _ (hwf.2.2.2.2.2.2.2.2 _ hja).2.1).1).1
      have hg15 := hG.f6 (hpr 6 (by decide)) (hwf.2.2.2.2.1 _ (hwf.2.2.2.2.2.2.1 _ (hwf.2.2.2.2.2.2.2.2 _ hja).2.1).1).2.1
      have hg16 := hG.f0 (hpr 0 (by decide)) (div3 (hwf.2.2.2.2.1 _ (hwf.2.2.2.2.2.2.1 _ (hwf.2.2.2.2.2.2.2.2 _ hja).2.1).1).1)
      have hg17 := hG.f0 (hpr 0 (by decide)) (Nat.mod_lt (σ.1 6 (σ.1 12 (σ.1 18 ja))) (by decide))
      have hst9 : σ.1 17 ja = 2 := by omega
      refine lv_iload_n hx hb dX7_rule_22 rfl (lv_at hl 3 rfl) ?_
      refine n_if_eq hx hb 34 (by omega) dX7_rule_23 (by decide) (fun c23 => ?_) (fun c23 => ?_)
      · refine lv_aload_n hx hb dX7_rule_34 rfl (lv_at hl 0 rfl) ?_
        refine n_iconst hx hb 4 dX7_rule_35 (by decide) ?_
        refine m_put (ref := "CardPort$Chargeback") (C := RX3) (T := TX3) (N := 5) (ci := 4) X Y htX7_rule_wsX301 tyX3 tyX3_ok nmX3 hg6 rfl 3 (by decide) kwX7_rule_1 rfl rfl (v := .int (nI 4)) rfl rfl (Nat.le_of_ble_eq_true rfl) dX7_rule_36 (fun H locs Y => ?_)
        obtain ⟨M18, eM18⟩ : ∃ zz9 : Mp, zz9 = mu M (g.1 3 ja) (.inr (4, [.int (nI ja), .ref (g.1 1 (σ.1 18 ja)), .int (nI (σ.1 19 ja)), .int (nI 4), .int (cbl (σ.1 17 ja) (σ.1 20 ja))])) := ⟨_, rfl⟩
        replace Y : mY D A M18 s H locs := by rw [eM18]; exact Y
        have hh19 : M18 (g.1 7 0) = some (.inr (8, [.ref (g.1 8 0), .ref (g.1 8 1), .ref (g.1 8 2), .ref (g.1 8 3), .ref (g.1 9 0), .ref (g.1 9 1), .ref (g.1 9 2), .int (nI (tD σ))])) := by rw [eM18, mu_ne _ _ (hG.ne ⟨hpr 7 (by decide), rfl⟩ ⟨hpr 3 (by decide), hja⟩ (fun zq => absurd zq.1 (by decide)))]; exact hg5
        have hh20 : M18 (g.1 1 (σ.1 18 ja)) = some (.inr (2, [.int (nI (σ.1 18 ja)), .ref (g.1 5 (σ.1 12 (σ.1 18 ja))), .int (nI (σ.1 13 (σ.1 18 ja))), .int (nI (σ.1 14 (σ.1 18 ja))), .int (nI (σ.1 15 (σ.1 18 ja)))])) := by rw [eM18, mu_ne _ _ (hG.ne ⟨hpr 1 (by decide), (hwf.2.2.2.2.2.2.2.2 _ hja).2.1⟩ ⟨hpr 3 (by decide), hja⟩ (fun zq => absurd zq.1 (by decide)))]; exact hg10
        have hh21 : M18 (g.1 5 (σ.1 12 (σ.1 18 ja))) = some (.inr (6, [.int (nI (σ.1 12 (σ.1 18 ja))), .ref (g.1 2 (σ.1 5 (σ.1 12 (σ.1 18 ja)))), .ref (g.1 6 (σ.1 6 (σ.1 12 (σ.1 18 ja)))), .int (nI (σ.1 7 (σ.1 12 (σ.1 18 ja)))), .int (nI (σ.1 9 (σ.1 12 (σ.1 18 ja)))), .int (nI (σ.1 8 (σ.1 12 (σ.1 18 ja)))), .int (nI (σ.1 10 (σ.1 12 (σ.1 18 ja))))])) := by rw [eM18, mu_ne _ _ (hG.ne ⟨hpr 5 (by decide), (hwf.2.2.2.2.2.2.1 _ (hwf.2.2.2.2.2.2.2.2 _ hja).2.1).1⟩ ⟨hpr 3 (by decide), hja⟩ (fun zq => absurd zq.1 (by decide)))]; exact hg12
        have hh22 : M18 (g.1 2 (σ.1 5 (σ.1 12 (σ.1 18 ja)))) = some (.inr (3, [.int (nI (σ.1 5 (σ.1 12 (σ.1 18 ja)))), .ref (g.1 0 ((σ.1 5 (σ.1 12 (σ.1 18 ja))) / 3))])) := by rw [eM18, mu_ne _ _ (hG.ne ⟨hpr 2 (by decide), (hwf.2.2.2.2.1 _ (hwf.2.2.2.2.2.2.1 _ (hwf.2.2.2.2.2.2.2.2 _ hja).2.1).1).1⟩ ⟨hpr 3 (by decide), hja⟩ (fun zq => absurd zq.1 (by decide)))]; exact hg14
        have hh23 : M18 (g.1 6 (σ.1 6 (σ.1 12 (σ.1 18 ja)))) = some (.inr (7, [.int (nI (σ.1 6 (σ.1 12 (σ.1 18 ja)))), .ref (g.1 0 ((σ.1 6 (σ.1 12 (σ.1 18 ja))) % 4)), .ref (g.1 4 (σ.1 1 (σ.1 6 (σ.1 12 (σ.1 18 ja)))))])) := by rw [eM18, mu_ne _ _ (hG.ne ⟨hpr 6 (by decide), (hwf.2.2.2.2.1 _ (hwf.2.2.2.2.2.2.1 _ (hwf.2.2.2.2.2.2.2.2 _ hja).2.1).1).2.1⟩ ⟨hpr 3 (by decide), hja⟩ (fun zq => absurd zq.1 (by decide)))]; exact hg15
        have hh24 : M18 (g.1 0 ((σ.1 5 (σ.1 12 (σ.1 18 ja))) / 3)) = some (.inr (1, [.long (lI (σ.2 0 ((σ.1 5 (σ.1 12 (σ.1 18 ja))) / 3))), .long (lI (σ.2 1 ((σ.1 5 (σ.1 12 (σ.1 18 ja))) / 3)))])) := by rw [eM18, mu_ne _ _ (hG.ne ⟨hpr 0 (by decide), (div3 (hwf.2.2.2.2.1 _ (hwf.2.2.2.2.2.2.1 _ (hwf.2.2.2.2.2.2.2.2 _ hja).2.1).1).1)⟩ ⟨hpr 3 (by decide), hja⟩ (fun zq => absurd zq.1 (by decide)))]; exact hg16
        have hh25 : M18 (g.1 0 ((σ.1 6 (σ.1 12 (σ.1 18 ja))) % 4)) = some (.inr (1, [.long (lI (σ.2 0 ((σ.1 6 (σ.1 12 (σ.1 18 ja))) % 4))), .long (lI (σ.2 1 ((σ.1 6 (σ.1 12 (σ.1 18 ja))) % 4)))])) := by rw [eM18, mu_ne _ _ (hG.ne ⟨hpr 0 (by decide), (Nat.mod_lt (σ.1 6 (σ.1 12 (σ.1 18 ja))) (by decide))⟩ ⟨hpr 3 (by decide), hja⟩ (fun zq => absurd zq.1 (by decide)))]; exact hg17
        have hh26 : M18 (g.1 3 ja) = some (.inr (4, [.int (nI ja), .ref (g.1 1 (σ.1 18 ja)), .int (nI (σ.1 19 ja)), .int (nI 4), .int (cbl (σ.1 17 ja) (σ.1 20 ja))])) := by rw [eM18]; exact mu_self _ _ _
        refine lv_aload_n hx hb dX7_rule_39 rfl (lv_at hl 0 rfl) ?_
        refine m_Sv (As := [.ref (g.1 3 ja)]) (rest := []) X Y hA hcx (c_pbts l D kc A e0 M18 (g.1 3 ja) (g.1 1 (σ.1 18 ja)) (g.1 5 (σ.1 12 (σ.1 18 ja))) (g.1 2 (σ.1 5 (σ.1 12 (σ.1 18 ja)))) (g.1 6 (σ.1 6 (σ.1 12 (σ.1 18 ja)))) (g.1 0 ((σ.1 6 (σ.1 12 (σ.1 18 ja))) % 4)) (g.1 0 ((σ.1 5 (σ.1 12 (σ.1 18 ja))) / 3)) (g.1 4 (σ.1 1 (σ.1 6 (σ.1 12 (σ.1 18 ja))))) (σ.1 19 ja) (σ.1 13 (σ.1 18 ja)) (σ.1 14 (σ.1 18 ja)) (σ.1 15 (σ.1 18 ja)) (σ.1 7 (σ.1 12 (σ.1 18 ja))) (σ.1 9 (σ.1 12 (σ.1 18 ja))) (σ.1 8 (σ.1 12 (σ.1 18 ja))) (σ.1 10 (σ.1 12 (σ.1 18 ja))) (nI ja) (nI (σ.1 18 ja)) (nI (σ.1 12 (σ.1 18 ja))) (nI (σ.1 5 (σ.1 12 (σ.1 18 ja)))) (nI (σ.1 6 (σ.1 12 (σ.1 18 ja)))) (nI 4) (cbl (σ.1 17 ja) (σ.1 20 ja)) (lI (σ.2 0 ((σ.1 5 (σ.1 12 (σ.1 18 ja))) / 3))) (lI (σ.2 1 ((σ.1 5 (σ.1 12 (σ.1 18 ja))) / 3))) (lI (σ.2 0 ((σ.1 6 (σ.1 12 (σ.1 18 ja))) % 4))) (lI (σ.2 1 ((σ.1 6 (σ.1 12 (σ.1 18 ja))) % 4))) hh26 hh20 hh21 hh22 hh23 hh24 hh25) (va_cwS 1 X.1.2.2.2.2 gX7_rule_X7_payBackToShop rfl rfl rfl (by decide +kernel) ⟨Nat.le_of_ble_eq_true rfl, Nat.le_of_ble_eq_true rfl⟩) rfl rfl hl.1 (Nat.le_of_ble_eq_true rfl) dX7_rule_40 ⟨by decide, by decide⟩ (fun M27 H locs p28 Y => ?_)
        have hcb : cbl (σ.1 17 ja) (σ.1 20 ja) = cbl 4 (σ.1 20 ja) := by rw [cbl_f (by omega), cbl_f (by omega)]
        have hG9 := (hG.setSt (hpr 3 (by decide)) (i := ja) (v := 4) hja).pay (hpr 0 (by decide)) (a := cBk σ (σ.1 18 ja)) (b := sBk σ (σ.1 18 ja)) (v := σ.1 19 ja) (div3 (hwf.2.2.2.2.1 _ (hwf.2.2.2.2.2.2.1 _ (hwf.2.2.2.2.2.2.2.2 _ hja).2.1).1).1) (Nat.mod_lt _ (by decide)) (by omega)
        replace hG9 : G pr kc e0 (losS σ ja) τ th o g M27 := by rw [p28, eM18, hcb]; exact hG9
        have fk29 : M27 (g.1 3 ja) = some (.inr (4, [.int (nI ja), .ref (g.1 1 (σ.1 18 ja)), .int (nI (σ.1 19 ja)), .int (nI 4), .int (-1)])) := by have z9 := hG9.f3 (hpr 3 (by decide)) hja; simpa [losS, up2, cbl] using z9
        refine lv_aload_n hx hb dX7_rule_43 rfl (lv_at hl 0 rfl) ?_
        refine m_get (ref := "CardPort$Chargeback") (C := RX3) (T := TX3) (N := 5) (ci := 4) X Y htX7_rule_wsX301 fk29 rfl 3 (by decide) kwX7_rule_1 rfl (v := .int (nI 4)) rfl dX7_rule_44 ?_
        refine vx_ret (m_iret X Y hr hlocks (by decide) (by decide) ?_ dX7_rule_47)
        have hbt : b = false := by cases b; rfl; exact absurd c23 (by decide)
        exact PC_i (by simp only [sp_rule, hva, ix_nI hla, Bool.and_self, Bool.and_true, Bool.and_false, Bool.false_and, Bool.true_and, Bool.false_eq_true, reduceIte]; rw [if_pos hst9, hbt]; rfl) (KG.rf g) hG9
      · refine lv_aload_n hx hb dX7_rule_26 rfl (lv_at hl 0 rfl) ?_
        refine n_iconst hx hb 3 dX7_rule_27 (by decide) ?_
        refine m_put (ref := "CardPort$Chargeback") (C := RX3) (T := TX3) (N := 5) (ci := 4) X Y htX7_rule_wsX301 tyX3 tyX3_ok nmX3 hg6 rfl 3 (by decide) kwX7_rule_1 rfl rfl (v := .int (nI 3)) rfl rfl (Nat.le_of_ble_eq_true rfl) dX7_rule_28 (fun H locs Y => ?_)
        obtain ⟨M30, eM30⟩ : ∃ zz9 : Mp, zz9 = mu M (g.1 3 ja) (.inr (4, [.int (nI ja), .ref (g.1 1 (σ.1 18 ja)), .int (nI (σ.1 19 ja)), .int (nI 3), .int (cbl (σ.1 17 ja) (σ.1 20 ja))])) := ⟨_, rfl⟩
        replace Y : mY D A M30 s H locs := by rw [eM30]; exact Y
        have hh31 : M30 (g.1 7 0) = some (.inr (8, [.ref (g.1 8 0), .ref (g.1 8 1), .ref (g.1 8 2), .ref (g.1 8 3), .ref (g.1 9 0), .ref (g.1 9 1), .ref (g.1 9 2), .int (nI (tD σ))])) := by rw [eM30, mu_ne _ _ (hG.ne ⟨hpr 7 (by decide), rfl⟩ ⟨hpr 3 (by decide), hja⟩ (fun zq => absurd zq.1 (by decide)))]; exact hg5
        have hh32 : M30 (g.1 1 (σ.1 18 ja)) = some (.inr (2, [.int (nI (σ.1 18 ja)), .ref (g.1 5 (σ.1 12 (σ.1 18 ja))), .int (nI (σ.1 13 (σ.1 18 ja))), .int (nI (σ.1 14 (σ.1 18 ja))), .int (nI (σ.1 15 (σ.1 18 ja)))])) := by rw [eM30, mu_ne _ _ (hG.ne ⟨hpr 1 (by decide), (hwf.2.2.2.2.2.2.2.2 _ hja).2.1⟩ ⟨hpr 3 (by decide), hja⟩ (fun zq => absurd zq.1 (by decide)))]; exact hg10
        have hh33 : M30 (g.1 5 (σ.1 12 (σ.1 18 ja))) = some (.inr (6, [.int (nI (σ.1 12 (σ.1 18 ja))), .ref (g.1 2 (σ.1 5 (σ.1 12 (σ.1 18 ja)))), .ref (g.1 6 (σ.1 6 (σ.1 12 (σ.1 18 ja)))), .int (nI (σ.1 7 (σ.1 12 (σ.1 18 ja)))), .int (nI (σ.1 9 (σ.1 12 (σ.1 18 ja)))), .int (nI (σ.1 8 (σ.1 12 (σ.1 18 ja)))), .int (nI (σ.1 10 (σ.1 12 (σ.1 18 ja))))])) := by rw [eM30, mu_ne _ _ (hG.ne ⟨hpr 5 (by decide), (hwf.2.2.2.2.2.2.1 _ (hwf.2.2.2.2.2.2.2.2 _ hja).2.1).1⟩ ⟨hpr 3 (by decide), hja⟩ (fun zq => absurd zq.1 (by decide)))]; exact hg12
        have hh34 : M30 (g.1 2 (σ.1 5 (σ.1 12 (σ.1 18 ja)))) = some (.inr (3, [.int (nI (σ.1 5 (σ.1 12 (σ.1 18 ja)))), .ref (g.1 0 ((σ.1 5 (σ.1 12 (σ.1 18 ja))) / 3))])) := by rw [eM30, mu_ne _ _ (hG.ne ⟨hpr 2 (by decide), (hwf.2.2.2.2.1 _ (hwf.2.2.2.2.2.2.1 _ (hwf.2.2.2.2.2.2.2.2 _ hja).2.1).1).1⟩ ⟨hpr 3 (by decide), hja⟩ (fun zq => absurd zq.1 (by decide)))]; exact hg14
        have hh35 : M30 (g.1 6 (σ.1 6 (σ.1 12 (σ.1 18 ja)))) = some (.inr (7, [.int (nI (σ.1 6 (σ.1 12 (σ.1 18 ja)))), .ref (g.1 0 ((σ.1 6 (σ.1 12 (σ.1 18 ja))) % 4)), .ref (g.1 4 (σ.1 1 (σ.1 6 (σ.1 12 (σ.1 18 ja)))))])) := by rw [eM30, mu_ne _ _ (hG.ne ⟨hpr 6 (by decide), (hwf.2.2.2.2.1 _ (hwf.2.2.2.2.2.2.1 _ (hwf.2.2.2.2.2.2.2.2 _ hja).2.1).1).2.1⟩ ⟨hpr 3 (by decide), hja⟩ (fun zq => absurd zq.1 (by decide)))]; exact hg15
        have hh36 : M30 (g.1 0 ((σ.1 5 (σ.1 12 (σ.1 18 ja))) / 3)) = some (.inr (1, [.long (lI (σ.2 0 ((σ.1 5 (σ.1 12 (σ.1 18 ja))) / 3))), .long (lI (σ.2 1 ((σ.1 5 (σ.1 12 (σ.1 18 ja))) / 3)))])) := by rw [eM30, mu_ne _ _ (hG.ne ⟨hpr 0 (by decide), (div3 (hwf.2.2.2.2.1 _ (hwf.2.2.2.2.2.2.1 _ (hwf.2.2.2.2.2.2.2.2 _ hja).2.1).1).1)⟩ ⟨hpr 3 (by decide), hja⟩ (fun zq => absurd zq.1 (by decide)))]; exact hg16
        have hh37 : M30 (g.1 0 ((σ.1 6 (σ.1 12 (σ.1 18 ja))) % 4)) = some (.inr (1, [.long (lI (σ.2 0 ((σ.1 6 (σ.1 12 (σ.1 18 ja))) % 4))), .long (lI (σ.2 1 ((σ.1 6 (σ.1 12 (σ.1 18 ja))) % 4)))])) := by rw [eM30, mu_ne _ _ (hG.ne ⟨hpr 0 (by decide), (Nat.mod_lt (σ.1 6 (σ.1 12 (σ.1 18 ja))) (by decide))⟩ ⟨hpr 3 (by decide), hja⟩ (fun zq => absurd zq.1 (by decide)))]; exact hg17
        have hh38 : M30 (g.1 3 ja) = some (.inr (4, [.int (nI ja), .ref (g.1 1 (σ.1 18 ja)), .int (nI (σ.1 19 ja)), .int (nI 3), .int (cbl (σ.1 17 ja) (σ.1 20 ja))])) := by rw [eM30]; exact mu_self _ _ _
        have hcb : cbl (σ.1 17 ja) (σ.1 20 ja) = cbl 3 (σ.1 20 ja) := by rw [cbl_f (by omega), cbl_f (by omega)]
        have hG9 := hG.setSt (hpr 3 (by decide)) (i := ja) (v := 3) hja
        replace hG9 : G pr kc e0 (up2 σ.1 17 ja 3, σ.2) τ th o g M30 := by rw [eM30, hcb]; exact hG9
        refine lv_goto (tgt := 43) hx hb dX7_rule_31 (by decide) ?_
        refine lv_aload_n hx hb dX7_rule_43 rfl (lv_at hl 0 rfl) ?_
        refine m_get (ref := "CardPort$Chargeback") (C := RX3) (T := TX3) (N := 5) (ci := 4) X Y htX7_rule_wsX301 hh38 rfl 3 (by decide) kwX7_rule_1 rfl (v := .int (nI 3)) rfl dX7_rule_44 ?_
        refine vx_ret (m_iret X Y hr hlocks (by decide) (by decide) ?_ dX7_rule_47)
        have hbt : b = true := by cases b; exact absurd c23 (by decide); rfl
        exact PC_i (by simp only [sp_rule, hva, ix_nI hla, Bool.and_self, Bool.and_true, Bool.and_false, Bool.false_and, Bool.true_and, Bool.false_eq_true, reduceIte]; rw [if_pos hst9, hbt]; rfl) (KG.rf g) hG9
