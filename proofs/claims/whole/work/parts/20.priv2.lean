theorem kwX7_givenBackOf_1 : Cond.fieldLink RX7 171 "CardPort$Capture" "refunded" "I" ∈ wsX7_givenBackOf := List.mem_of_getElem? (i := 1) rfl
theorem htX7_givenBackOf_wsX101 : ∀ w ∈ wsX10, w ∈ wsX7_givenBackOf := fun _ h => List.mem_cons_of_mem _ (List.mem_append_left _ (List.mem_append_left _ (List.mem_append_left _ (List.mem_append_right _ h))))
theorem kwX7_givenBackOf_2 : Cond.fieldLink RX7 43 "CardPort" "chargebacks" "Ljava/util/List;" ∈ wsX7_givenBackOf := List.mem_of_getElem? (i := 2) rfl
theorem htX7_givenBackOf_wsX702 : ∀ w ∈ wsX70, w ∈ wsX7_givenBackOf := fun _ h => List.mem_cons_of_mem _ (List.mem_append_left _ (List.mem_append_left _ (List.mem_append_right _ h)))
theorem kwX7_givenBackOf_3 : Cond.classLink RX7 174 "CardPort$Chargeback" ∈ wsX7_givenBackOf := List.mem_of_getElem? (i := 3) rfl
theorem kwX7_givenBackOf_4 : Cond.fieldLink RX7 194 "CardPort$Chargeback" "capture" "LCardPort$Capture;" ∈ wsX7_givenBackOf := List.mem_of_getElem? (i := 4) rfl
theorem htX7_givenBackOf_wsX303 : ∀ w ∈ wsX30, w ∈ wsX7_givenBackOf := fun _ h => List.mem_cons_of_mem _ (List.mem_append_left _ (List.mem_append_right _ h))
theorem kwX7_givenBackOf_5 : Cond.fieldLink RX7 184 "CardPort$Chargeback" "stage" "I" ∈ wsX7_givenBackOf := List.mem_of_getElem? (i := 5) rfl
theorem kwX7_givenBackOf_6 : Cond.fieldLink RX7 198 "CardPort$Chargeback" "amount" "I" ∈ wsX7_givenBackOf := List.mem_of_getElem? (i := 6) rfl
set_option maxHeartbeats 4000000 in
set_option maxRecDepth 100000 in
theorem c_gb (l : Launch) (D : va_G) (kc : Nat → ClassId) (A : Nat → Prop) (e0 : Nat × Nat) (M : Mp) {pr : Nat → Prop} {σ τ : Sg} {th : Int32} {o : Int64} {g : Gh} {nn : Nat} (hG : G pr kc e0 σ τ th o g M) (hwf : WS nn σ) (hpr : ∀ t, t ≤ 10 → pr t) (ck : Nat) (hck : ck < nC σ) : Met l yX7_givenBackOf wsX7_givenBackOf ({ frames := 3, cells := 0, slots := 0, locals := 64 }) (mPre D kc A e0 M [.ref (g.1 7 0), .ref (g.1 1 ck)]) (va_Qi (fun r M1 => r = nI (gb σ ck) ∧ M1 = M) (mB D A) A) 0 0 A := by
  refine Met.ofW (cc := cX7_givenBackOf) (maxL := 5) (ret := (some .int)) (by decide) rfl ?_
  intro p e s m args below meth c s₁ B hml hv
  obtain ⟨rfl, hw, hK, hA, hcx⟩ := hv
  have X : mX p s m _ c cX7_givenBackOf 5 RX7 wsX7_givenBackOf D kc := ⟨⟨B.exec, B.bytes, hml, findClass_of_methodNamed B.named, atoms_spec (ws := wsX7_givenBackOf) B.pre⟩, hK⟩
  have hx := B.exec
  have hb := B.bytes
  have hr := B.returns
  have hlocks := B.notSynchronized
  have Y : mY D A M s s.heap [] := ⟨hw, va_S.rf⟩
  have hl := lv_entry ([.ref (g.1 7 0), .ref (g.1 1 ck)]) (n := 5) (Nat.le_of_ble_eq_true rfl)
  rw [lg_entry_eq]
  generalize (lg_sl ([.ref (g.1 7 0), .ref (g.1 1 ck)]) ++ List.replicate (5 - (lg_sl ([.ref (g.1 7 0), .ref (g.1 1 ck)])).length) Slot.unset).toArray = ls at hl ⊢
  have hl : lv_has ls 5 [(0, .ref (g.1 7 0)), (1, .ref (g.1 1 ck))] := hl
  have hwn := hwf.2.2.2.1
  have hwd := hwf.1
  refine lv_aload_n hx hb dX7_givenBackOf_0 rfl (lv_at hl 1 rfl) ?_
  have hg1 := hG.f1 (hpr 1 (by decide)) hck
  have hw2 := hwf.2.2.2.2.2.2.1 _ hck
  refine m_get (ref := "CardPort$Capture") (C := RX1) (T := TX1) (N := 5) (ci := 2) X Y htX7_givenBackOf_wsX101 hg1 rfl 4 (by decide) kwX7_givenBackOf_1 rfl (v := .int (nI (σ.1 15 ck))) rfl dX7_givenBackOf_1 ?_
  refine lv_istore_n (lv' := [(2, .int (nI (σ.1 15 ck))), (0, .ref (g.1 7 0)), (1, .ref (g.1 1 ck))]) hx hb dX7_givenBackOf_4 rfl hl (by decide) rfl (fun ls hl => ?_)
  refine n_iconst hx hb 0 dX7_givenBackOf_5 (by decide) ?_
  refine lv_istore_n (lv' := [(3, .int (nI 0)), (2, .int (nI (σ.1 15 ck))), (0, .ref (g.1 7 0)), (1, .ref (g.1 1 ck))]) hx hb dX7_givenBackOf_6 rfl hl (by decide) rfl (fun ls hl => ?_)
  generalize s.heap = H at Y ⊢
  generalize ([] : List Loc) = locs at Y ⊢
  obtain ⟨k, hk0⟩ : ∃ k : Nat, k = 0 := ⟨_, rfl⟩
  replace hl : lv_has ls 5 [(3, .int (nI k)), (2, .int (nI (gbS σ ck k))), (0, .ref (g.1 7 0)), (1, .ref (g.1 1 ck))] := by
    rw [hk0]; exact hl
  replace hl : lv_has ls 5 [(0, .ref (g.1 7 0)), (1, .ref (g.1 1 ck)), (2, .int (nI (gbS σ ck k))), (3, .int (nI k))] := lv_sub hl [2, 3, 1, 0] rfl
  have hk : k ≤ nB σ := by omega
  clear hk0
  obtain ⟨fu, hfu⟩ : ∃ fu : Nat, fu = nB σ - k := ⟨_, rfl⟩
  induction fu generalizing k H locs ls with
  | zero =>
    obtain rfl : k = nB σ := by omega
    refine lv_iload_n hx hb dX7_givenBackOf_7 rfl (lv_at hl 3 rfl) ?_
    refine lv_aload_n hx hb dX7_givenBackOf_8 rfl (lv_at hl 0 rfl) ?_
    have hg3 := hG.f7 (hpr 7 (by decide))
    refine m_get (ref := "CardPort") (C := RX7) (T := TX7) (N := 8) (ci := 8) X Y htX7_givenBackOf_wsX702 hg3 rfl 6 (by decide) kwX7_givenBackOf_2 rfl (v := .ref (g.1 9 2)) rfl dX7_givenBackOf_9 ?_
    have hg4 := hG.f9_2 (hpr 9 (by decide))
    refine m_rFi (As := []) (rest := [.int (nI (nB σ))]) X Y hA hcx (c_size l D kc A e0 M (g.1 9 2) (lar e0 σ g 2) (nB σ) (g.2.2.2 2) hg4) (va_cwF 0 X.1.2.2.2.2 gX7_givenBackOf_Jx4a65c_size_8abf5_f94Jx4a65c rfl rfl rfl hcx.1.2.2.2.2.2.2.1 (by decide +kernel) ⟨Nat.le_of_ble_eq_true rfl, Nat.le_of_ble_eq_true rfl⟩) hg4 rfl rfl rfl hl.1 (Nat.le_of_ble_eq_true rfl) dX7_givenBackOf_12 ⟨by decide, by decide⟩ (fun H locs Y => ?_)
    refine n_icmp_ge hx hb 67 (by omega) (by omega) dX7_givenBackOf_17 (by decide) (fun _ => ?_) (fun zq => absurd zq (by omega))
    refine lv_iload_n hx hb dX7_givenBackOf_67 rfl (lv_at hl 2 rfl) ?_
    refine m_iret X Y hr hlocks (by decide) (by decide) ?_ dX7_givenBackOf_68
    exact ⟨rfl, rfl⟩
  | succ fu ih =>
    refine lv_iload_n hx hb dX7_givenBackOf_7 rfl (lv_at hl 3 rfl) ?_
    refine lv_aload_n hx hb dX7_givenBackOf_8 rfl (lv_at hl 0 rfl) ?_
    have hg5 := hG.f7 (hpr 7 (by decide))
    refine m_get (ref := "CardPort") (C := RX7) (T := TX7) (N := 8) (ci := 8) X Y htX7_givenBackOf_wsX702 hg5 rfl 6 (by decide) kwX7_givenBackOf_2 rfl (v := .ref (g.1 9 2)) rfl dX7_givenBackOf_9 ?_
    have hg6 := hG.f9_2 (hpr 9 (by decide))
    refine m_rFi (As := []) (rest := [.int (nI k)]) X Y hA hcx (c_size l D kc A e0 M (g.1 9 2) (lar e0 σ g 2) (nB σ) (g.2.2.2 2) hg6) (va_cwF 0 X.1.2.2.2.2 gX7_givenBackOf_Jx4a65c_size_8abf5_f94Jx4a65c rfl rfl rfl hcx.1.2.2.2.2.2.2.1 (by decide +kernel) ⟨Nat.le_of_ble_eq_true rfl, Nat.le_of_ble_eq_true rfl⟩) hg6 rfl rfl rfl hl.1 (Nat.le_of_ble_eq_true rfl) dX7_givenBackOf_12 ⟨by decide, by decide⟩ (fun H locs Y => ?_)
    refine n_icmp_ge hx hb 67 (by omega) (by omega) dX7_givenBackOf_17 (by decide) (fun zq => absurd zq (by omega)) (fun _ => ?_)
    refine lv_aload_n hx hb dX7_givenBackOf_20 rfl (lv_at hl 0 rfl) ?_
    refine m_get (ref := "CardPort") (C := RX7) (T := TX7) (N := 8) (ci := 8) X Y htX7_givenBackOf_wsX702 hg5 rfl 6 (by decide) kwX7_givenBackOf_2 rfl (v := .ref (g.1 9 2)) rfl dX7_givenBackOf_21 ?_
    refine lv_iload_n hx hb dX7_givenBackOf_24 rfl (lv_at hl 3 rfl) ?_
    obtain ⟨-, el7b, el7c, el7d, el7e⟩ := hG.el2 (hpr 10 (by decide)) (show k < nB σ by omega)
    refine m_rFq (As := [.int (nI k)]) (rest := []) X Y hA hcx (c_get l D kc A e0 M (g.1 9 2) (lar e0 σ g 2) (nB σ) (g.2.1 2) k (g.1 3 k) (g.2.2.2 2) (g.2.2.1 2) hg6 el7b (show k < nB σ by omega) el7c (by omega) el7e) (va_cwF 1 X.1.2.2.2.2 gX7_givenBackOf_Jx4a65c_get_915e3_f235Jx4a65c rfl rfl rfl hcx.1.2.2.2.2.2.2.2.1 (by decide +kernel) ⟨Nat.le_of_ble_eq_true rfl, Nat.le_of_ble_eq_true rfl⟩) hg6 rfl rfl rfl hl.1 (Nat.le_of_ble_eq_true rfl) dX7_givenBackOf_25 ⟨by decide, by decide⟩ (fun H locs Y => ?_)
    have hg8 := hG.f3 (hpr 3 (by decide)) (show k < nB σ by omega)
    have hw9 := hwf.2.2.2.2.2.2.2.2 _ (show k < nB σ by omega)
    refine m_cast X Y (C := RX3) kwX7_givenBackOf_3 hg8 rfl dX7_givenBackOf_30 ?_
    refine lv_astore (lv' := [(4, .ref (g.1 3 k)), (0, .ref (g.1 7 0)), (1, .ref (g.1 1 ck)), (2, .int (nI (gbS σ ck k))), (3, .int (nI k))]) hx hb dX7_givenBackOf_33 hl (by decide) rfl (fun ls hl => ?_)
    refine lv_aload hx hb dX7_givenBackOf_35 (lv_at hl 0 rfl) ?_
    refine m_get (ref := "CardPort$Chargeback") (C := RX3) (T := TX3) (N := 5) (ci := 4) X Y htX7_givenBackOf_wsX303 hg8 rfl 1 (by decide) kwX7_givenBackOf_4 rfl (v := .ref (g.1 1 (σ.1 18 k))) rfl dX7_givenBackOf_37 ?_
    refine lv_aload_n hx hb dX7_givenBackOf_40 rfl (lv_at hl 2 rfl) ?_
    have hacm : g.1 1 (σ.1 18 k) = g.1 1 ck ↔ σ.1 18 k = ck := ⟨fun zq => (hG.2.1 1 _ 1 _ ⟨hpr 1 (by decide), (hwf.2.2.2.2.2.2.2.2 _ (show k < nB σ by omega)).2.1⟩ ⟨hpr 1 (by decide), hck⟩ zq).2, fun zq => by rw [zq]⟩
    refine lv_acmp_ne (rx := some (g.1 1 (σ.1 18 k))) (ry := some (g.1 1 ck)) (tgt := 61) hx hb dX7_givenBackOf_41 (by decide) (fun c41 => ?_) (fun c41 => ?_)
    · refine lv_iinc (v := (nI (k + 1))) (lv' := [(3, .int (nI (k + 1))), (4, .ref (g.1 3 k)), (0, .ref (g.1 7 0)), (1, .ref (g.1 1 ck)), (2, .int (nI (gbS σ ck k)))]) hx hb dX7_givenBackOf_61 hl (k := 4) rfl (nI_add _ 1) (by decide) rfl (fun ls hl => ?_)
      refine lv_goto (tgt := 7) hx hb dX7_givenBackOf_64 (by decide) ?_
      have he2 : gbS σ ck (k + 1) = gbS σ ck k := by rw [gbS, if_neg (fun zq => c41 (congrArg some (hacm.mpr zq.1))), Nat.add_zero]
      exact ih (k := k + 1) (Y := Y) (hl := by rw [he2]; exact (lv_sub hl [2, 3, 4, 0] rfl)) (hfu := by omega) (hk := by omega)
    · refine lv_aload hx hb dX7_givenBackOf_44 (lv_at hl 0 rfl) ?_
      refine m_get (ref := "CardPort$Chargeback") (C := RX3) (T := TX3) (N := 5) (ci := 4) X Y htX7_givenBackOf_wsX303 hg8 rfl 3 (by decide) kwX7_givenBackOf_5 rfl (v := .int (nI (σ.1 17 k))) rfl dX7_givenBackOf_46 ?_
      refine n_iconst hx hb 4 dX7_givenBackOf_49 (by decide) ?_
      refine n_icmp_eq hx hb 61 (by omega) (by omega) dX7_givenBackOf_50 (by decide) (fun c50 => ?_) (fun c50 => ?_)
      · refine lv_iinc (v := (nI (k + 1))) (lv' := [(3, .int (nI (k + 1))), (4, .ref (g.1 3 k)), (0, .ref (g.1 7 0)), (1, .ref (g.1 1 ck)), (2, .int (nI (gbS σ ck k)))]) hx hb dX7_givenBackOf_61 hl (k := 4) rfl (nI_add _ 1) (by decide) rfl (fun ls hl => ?_)
        refine lv_goto (tgt := 7) hx hb dX7_givenBackOf_64 (by decide) ?_
        have he2 : gbS σ ck (k + 1) = gbS σ ck k := by rw [gbS, if_neg (fun zq => zq.2 c50), Nat.add_zero]
        exact ih (k := k + 1) (Y := Y) (hl := by rw [he2]; exact (lv_sub hl [2, 3, 4, 0] rfl)) (hfu := by omega) (hk := by omega)
      · refine lv_iload_n hx hb dX7_givenBackOf_53 rfl (lv_at hl 3 rfl) ?_
        refine lv_aload hx hb dX7_givenBackOf_54 (lv_at hl 0 rfl) ?_
        refine m_get (ref := "CardPort$Chargeback") (C := RX3) (T := TX3) (N := 5) (ci := 4) X Y htX7_givenBackOf_wsX303 hg8 rfl 2 (by decide) kwX7_givenBackOf_6 rfl (v := .int (nI (σ.1 19 k))) rfl dX7_givenBackOf_56 ?_
        refine n_iadd hx hb dX7_givenBackOf_59 ?_
        refine lv_istore_n (lv' := [(2, .int (nI ((gbS σ ck k) + (σ.1 19 k)))), (4, .ref (g.1 3 k)), (0, .ref (g.1 7 0)), (1, .ref (g.1 1 ck)), (3, .int (nI k))]) hx hb dX7_givenBackOf_60 rfl hl (by decide) rfl (fun ls hl => ?_)
        refine lv_iinc (v := (nI (k + 1))) (lv' := [(3, .int (nI (k + 1))), (2, .int (nI ((gbS σ ck k) + (σ.1 19 k)))), (4, .ref (g.1 3 k)), (0, .ref (g.1 7 0)), (1, .ref (g.1 1 ck))]) hx hb dX7_givenBackOf_61 hl (k := 4) rfl (nI_add _ 1) (by decide) rfl (fun ls hl => ?_)
        refine lv_goto (tgt := 7) hx hb dX7_givenBackOf_64 (by decide) ?_
        have he2 : gbS σ ck (k + 1) = (gbS σ ck k) + (σ.1 19 k) := by rw [gbS, if_pos ⟨hacm.mp (Option.some.inj c41), c50⟩]
        exact ih (k := k + 1) (Y := Y) (hl := by rw [he2]; exact (lv_sub hl [3, 4, 1, 0] rfl)) (hfu := by omega) (hk := by omega)
theorem kwX7_countPressed_1 : Cond.fieldLink RX7 43 "CardPort" "chargebacks" "Ljava/util/List;" ∈ wsX7_countPressed := List.mem_of_getElem? (i := 1) rfl
theorem htX7_countPressed_wsX701 : ∀ w ∈ wsX70, w ∈ wsX7_countPressed := fun _ h => List.mem_cons_of_mem _ (List.mem_append_left _ (List.mem_append_left _ (List.mem_append_right _ h)))
theorem kwX7_countPressed_2 : Cond.classLink RX7 174 "CardPort$Chargeback" ∈ wsX7_countPressed := List.mem_of_getElem? (i := 2) rfl
theorem kwX7_countPressed_3 : Cond.fieldLink RX7 184 "CardPort$Chargeback" "stage" "I" ∈ wsX7_countPressed := List.mem_of_getElem? (i := 3) rfl
theorem htX7_countPressed_wsX302 : ∀ w ∈ wsX30, w ∈ wsX7_countPressed := fun _ h => List.mem_cons_of_mem _ (List.mem_append_left _ (List.mem_append_right _ h))
set_option maxHeartbeats 4000000 in
set_option maxRecDepth 100000 in
theorem c_cp (l : Launch) (D : va_G) (kc : Nat → ClassId) (A : Nat → Prop) (e0 : Nat × Nat) (M : Mp) {pr : Nat → Prop} {σ τ : Sg} {th : Int32} {o : Int64} {g : Gh} {nn : Nat} (hG : G pr kc e0 σ τ th o g M) (hwf : WS nn σ) (hpr : ∀ t, t ≤ 10 → pr t)  : Met l yX7_countPressed wsX7_countPressed ({ frames := 3, cells := 0, slots := 0, locals := 64 }) (mPre D kc A e0 M [.ref (g.1 7 0)]) (va_Qi (fun r M1 => r = nI (prS σ (nB σ)) ∧ M1 = M) (mB D A) A) 0 0 A := by
  refine Met.ofW (cc := cX7_countPressed) (maxL := 3) (ret := (some .int)) (by decide) rfl ?_
  intro p e s m args below meth c s₁ B hml hv
  obtain ⟨rfl, hw, hK, hA, hcx⟩ := hv
  have X : mX p s m _ c cX7_countPressed 3 RX7 wsX7_countPressed D kc := ⟨⟨B.exec, B.bytes, hml, findClass_of_methodNamed B.named, atoms_spec (ws := wsX7_countPressed) B.pre⟩, hK⟩
  have hx := B.exec
  have hb := B.bytes
  have hr := B.returns
  have hlocks := B.notSynchronized
  have Y : mY D A M s s.heap [] := ⟨hw, va_S.rf⟩
  have hl := lv_entry ([.ref (g.1 7 0)]) (n := 3) (Nat.le_of_ble_eq_true rfl)
  rw [lg_entry_eq]
  generalize (lg_sl ([.ref (g.1 7 0)]) ++ List.replicate (3 - (lg_sl ([.ref (g.1 7 0)])).length) Slot.unset).toArray = ls at hl ⊢
  have hl : lv_has ls 3 [(0, .ref (g.1 7 0))] := hl
  have hwn := hwf.2.2.2.1
  have hwd := hwf.1
  refine n_iconst hx hb 0 dX7_countPressed_0 (by decide) ?_
  refine lv_istore_n (lv' := [(1, .int (nI 0)), (0, .ref (g.1 7 0))]) hx hb dX7_countPressed_1 rfl hl (by decide) rfl (fun ls hl => ?_)
  refine n_iconst hx hb 0 dX7_countPressed_2 (by decide) ?_
  refine lv_istore_n (lv' := [(2, .int (nI 0)), (1, .int (nI 0)), (0, .ref (g.1 7 0))]) hx hb dX7_countPressed_3 rfl hl (by decide) rfl (fun ls hl => ?_)
  generalize s.heap = H at Y ⊢
  generalize ([] : List Loc) = locs at Y ⊢
  obtain ⟨k, hk0⟩ : ∃ k : Nat, k = 0 := ⟨_, rfl⟩
  replace hl : lv_has ls 3 [(2, .int (nI k)), (1, .int (nI (prS σ k))), (0, .ref (g.1 7 0))] := by
    rw [hk0]; exact hl
  replace hl : lv_has ls 3 [(0, .ref (g.1 7 0)), (1, .int (nI (prS σ k))), (2, .int (nI k))] := lv_sub hl [2, 1, 0] rfl
  have hk : k ≤ nB σ := by omega
  clear hk0
  obtain ⟨fu, hfu⟩ : ∃ fu : Nat, fu = nB σ - k := ⟨_, rfl⟩
  induction fu generalizing k H locs ls with
  | zero =>
    obtain rfl : k = nB σ := by omega
    refine lv_iload_n hx hb dX7_countPressed_4 rfl (lv_at hl 2 rfl) ?_
    refine lv_aload_n hx hb dX7_countPressed_5 rfl (lv_at hl 0 rfl) ?_
    have hg1 := hG.f7 (hpr 7 (by decide))
    refine m_get (ref := "CardPort") (C := RX7) (T := TX7) (N := 8) (ci := 8) X Y htX7_countPressed_wsX701 hg1 rfl 6 (by decide) kwX7_countPressed_1 rfl (v := .ref (g.1 9 2)) rfl dX7_countPressed_6 ?_
    have hg2 := hG.f9_2 (hpr 9 (by decide))
    refine m_rFi (As := []) (rest := [.int (nI (nB σ))]) X Y hA hcx (c_size l D kc A e0 M (g.1 9 2) (lar e0 σ g 2) (nB σ) (g.2.2.2 2) hg2) (va_cwF 0 X.1.2.2.2.2 gX7_countPressed_Jx4a65c_size_8abf5_f94Jx4a65c rfl rfl rfl hcx.1.2.2.2.2.2.2.1 (by decide +kernel) ⟨Nat.le_of_ble_eq_true rfl, Nat.le_of_ble_eq_true rfl⟩) hg2 rfl rfl rfl hl.1 (Nat.le_of_ble_eq_true rfl) dX7_countPressed_9 ⟨by decide, by decide⟩ (fun H locs Y => ?_)
    refine n_icmp_ge hx hb 46 (by omega) (by omega) dX7_countPressed_14 (by decide) (fun _ => ?_) (fun zq => absurd zq (by omega))
    refine lv_iload_n hx hb dX7_countPressed_46 rfl (lv_at hl 1 rfl) ?_
    refine m_iret X Y hr hlocks (by decide) (by decide) ?_ dX7_countPressed_47
    exact ⟨rfl, rfl⟩
  | succ fu ih =>
    refine lv_iload_n hx hb dX7_countPressed_4 rfl (lv_at hl 2 rfl) ?_
    refine lv_aload_n hx hb dX7_countPressed_5 rfl (lv_at hl 0 rfl) ?_
    have hg3 := hG.f7 (hpr 7 (by decide))
    refine m_get (ref := "CardPort") (C := RX7) (T := TX7) (N := 8) (ci := 8) X Y htX7_countPressed_wsX701 hg3 rfl 6 (by decide) kwX7_countPressed_1 rfl (v := .ref (g.1 9 2)) rfl dX7_countPressed_6 ?_
    have hg4 := hG.f9_2 (hpr 9 (by decide))
    refine m_rFi (As := []) (rest := [.int (nI k)]) X Y hA hcx (c_size l D kc A e0 M (g.1 9 2) (lar e0 σ g 2) (nB σ) (g.2.2.2 2) hg4) (va_cwF 0 X.1.2.2.2.2 gX7_countPressed_Jx4a65c_size_8abf5_f94Jx4a65c rfl rfl rfl hcx.1.2.2.2.2.2.2.1 (by decide +kernel) ⟨Nat.le_of_ble_eq_true rfl, Nat.le_of_ble_eq_true rfl⟩) hg4 rfl rfl rfl hl.1 (Nat.le_of_ble_eq_true rfl) dX7_countPressed_9 ⟨by decide, by decide⟩ (fun H locs Y => ?_)
    refine n_icmp_ge hx hb 46 (by omega) (by omega) dX7_countPressed_14 (by decide) (fun zq => absurd zq (by omega)) (fun _ => ?_)
    refine lv_aload_n hx hb dX7_countPressed_17 rfl (lv_at hl 0 rfl) ?_
    refine m_get (ref := "CardPort") (C := RX7) (T := TX7) (N := 8) (ci := 8) X Y htX7_countPressed_wsX701 hg3 rfl 6 (by decide) kwX7_countPressed_1 rfl (v := .ref (g.1 9 2)) rfl dX7_countPressed_18 ?_
    refine lv_iload_n hx hb dX7_countPressed_21 rfl (lv_at hl 2 rfl) ?_
    obtain ⟨-, el5b, el5c, el5d, el5e⟩ := hG.el2 (hpr 10 (by decide)) (show k < nB σ by omega)
    refine m_rFq (As := [.int (nI k)]) (rest := []) X Y hA hcx (c_get l D kc A e0 M (g.1 9 2) (lar e0 σ g 2) (nB σ) (g.2.1 2) k (g.1 3 k) (g.2.2.2 2) (g.2.2.1 2) hg4 el5b (show k < nB σ by omega) el5c (by omega) el5e) (va_cwF 1 X.1.2.2.2.2 gX7_countPressed_Jx4a65c_get_915e3_f235Jx4a65c rfl rfl rfl hcx.1.2.2.2.2.2.2.2.1 (by decide +kernel) ⟨Nat.le_of_ble_eq_true rfl, Nat.le_of_ble_eq_true rfl⟩) hg4 rfl rfl rfl hl.1 (Nat.le_of_ble_eq_true rfl) dX7_countPressed_22 ⟨by decide, by decide⟩ (fun H locs Y => ?_)
    have hg6 := hG.f3 (hpr 3 (by decide)) (show k < nB σ by omega)
    have hw7 := hwf.2.2.2.2.2.2.2.2 _ (show k < nB σ by omega)
    refine m_cast X Y (C := RX3) kwX7_countPressed_2 hg6 rfl dX7_countPressed_27 ?_
    refine m_get (ref := "CardPort$Chargeback") (C := RX3) (T := TX3) (N := 5) (ci := 4) X Y htX7_countPressed_wsX302 hg6 rfl 3 (by decide) kwX7_countPressed_3 rfl (v := .int (nI (σ.1 17 k))) rfl dX7_countPressed_30 ?_
    refine n_iconst hx hb 2 dX7_countPressed_33 (by decide) ?_
    refine n_icmp_ne hx hb 40 (by omega) (by omega) dX7_countPressed_34 (by decide) (fun c34 => ?_) (fun c34 => ?_)
    · refine lv_iinc (v := (nI (k + 1))) (lv' := [(2, .int (nI (k + 1))), (0, .ref (g.1 7 0)), (1, .int (nI (prS σ k)))]) hx hb dX7_countPressed_40 hl (k := 2) rfl (nI_add _ 1) (by decide) rfl (fun ls hl => ?_)
      refine lv_goto (tgt := 4) hx hb dX7_countPressed_43 (by decide) ?_
      have he1 : prS σ (k + 1) = prS σ k := by rw [prS, if_neg c34, Nat.add_zero]
      exact ih (k := k + 1) (Y := Y) (hl := by rw [he1]; exact (lv_sub hl [1, 2, 0] rfl)) (hfu := by omega) (hk := by omega)
    · refine lv_iinc (v := (nI (prS σ k + 1))) (lv' := [(1, .int (nI (prS σ k + 1))), (0, .ref (g.1 7 0)), (2, .int (nI k))]) hx hb dX7_countPressed_37 hl (k := 1) rfl (nI_add _ 1) (by decide) rfl (fun ls hl => ?_)
      refine lv_iinc (v := (nI (k + 1))) (lv' := [(2, .int (nI (k + 1))), (1, .int (nI (prS σ k + 1))), (0, .ref (g.1 7 0))]) hx hb dX7_countPressed_40 hl (k := 2) rfl (nI_add _ 1) (by decide) rfl (fun ls hl => ?_)
      refine lv_goto (tgt := 4) hx hb dX7_countPressed_43 (by decide) ?_
      have he1 : prS σ (k + 1) = prS σ k + 1 := by rw [prS, if_pos c34]
      exact ih (k := k + 1) (Y := Y) (hl := by rw [he1]; exact (lv_sub hl [2, 1, 0] rfl)) (hfu := by omega) (hk := by omega)
theorem kwX7_sumOfFees_1 : Cond.fieldLink RX7 40 "CardPort" "captures" "Ljava/util/List;" ∈ wsX7_sumOfFees := List.mem_of_getElem? (i := 1) rfl
theorem htX7_sumOfFees_wsX701 : ∀ w ∈ wsX70, w ∈ wsX7_sumOfFees := fun _ h => List.mem_cons_of_mem _ (List.mem_append_left _ (List.mem_append_left _ (List.mem_append_right _ h)))
theorem kwX7_sumOfFees_2 : Cond.classLink RX7 129 "CardPort$Capture" ∈ wsX7_sumOfFees := List.mem_of_getElem? (i := 2) rfl
theorem kwX7_sumOfFees_3 : Cond.fieldLink RX7 151 "CardPort$Capture" "fee" "I" ∈ wsX7_sumOfFees := List.mem_of_getElem? (i := 3) rfl
theorem htX7_sumOfFees_wsX102 : ∀ w ∈ wsX10, w ∈ wsX7_sumOfFees := fun _ h => List.mem_cons_of_mem _ (List.mem_append_left _ (List.mem_append_right _ h))
set_option maxHeartbeats 4000000 in
set_option maxRecDepth 100000 in
theorem c_sf (l : Launch) (D : va_G) (kc : Nat → ClassId) (A : Nat → Prop) (e0 : Nat × Nat) (M : Mp) {pr : Nat → Prop} {σ τ : Sg} {th : Int32} {o : Int64} {g : Gh} {nn : Nat} (hG : G pr kc e0 σ τ th o g M) (hwf : WS nn σ) (hpr : ∀ t, t ≤ 10 → pr t)  : Met l yX7_sumOfFees wsX7_sumOfFees ({ frames := 3, cells := 0, slots := 0, locals := 64 }) (mPre D kc A e0 M [.ref (g.1 7 0)]) (va_Qi (fun r M1 => r = nI (feS σ (nC σ)) ∧ M1 = M) (mB D A) A) 0 0 A := by
  refine Met.ofW (cc := cX7_sumOfFees) (maxL := 3) (ret := (some .int)) (by decide) rfl ?_
  intro p e s m args below meth c s₁ B hml hv
  obtain ⟨rfl, hw, hK, hA, hcx⟩ := hv
  have X : mX p s m _ c cX7_sumOfFees 3 RX7 wsX7_sumOfFees D kc := ⟨⟨B.exec, B.bytes, hml, findClass_of_methodNamed B.named, atoms_spec (ws := wsX7_sumOfFees) B.pre⟩, hK⟩
  have hx := B.exec
  have hb := B.bytes
  have hr := B.returns
  have hlocks := B.notSynchronized
  have Y : mY D A M s s.heap [] := ⟨hw, va_S.rf⟩
  have hl := lv_entry ([.ref (g.1 7 0)]) (n := 3) (Nat.le_of_ble_eq_true rfl)
  rw [lg_entry_eq]
  generalize (lg_sl ([.ref (g.1 7 0)]) ++ List.replicate (3 - (lg_sl ([.ref (g.1 7 0)])).length) Slot.unset).toArray = ls at hl ⊢
  have hl : lv_has ls 3 [(0, .ref (g.1 7 0))] := hl
  have hwn := hwf.2.2.2.1
  have hwd := hwf.1
  refine n_iconst hx hb 0 dX7_sumOfFees_0 (by decide) ?_
  refine lv_istore_n (lv' := [(1, .int (nI 0)), (0, .ref (g.1 7 0))]) hx hb dX7_sumOfFees_1 rfl hl (by decide) rfl (fun ls hl => ?_)
  refine n_iconst hx hb 0 dX7_sumOfFees_2 (by decide) ?_
  refine lv_istore_n (lv' := [(2, .int (nI 0)), (1, .int (nI 0)), (0, .ref (g.1 7 0))]) hx hb dX7_sumOfFees_3 rfl hl (by decide) rfl (fun ls hl => ?_)
  generalize s.heap = H at Y ⊢
  generalize ([] : List Loc) = locs at Y ⊢
  obtain ⟨k, hk0⟩ : ∃ k : Nat, k = 0 := ⟨_, rfl⟩
  replace hl : lv_has ls 3 [(2, .int (nI k)), (1, .int (nI (feS σ k))), (0, .ref (g.1 7 0))] := by
    rw [hk0]; exact hl
  replace hl : lv_has ls 3 [(0, .ref (g.1 7 0)), (1, .int (nI (feS σ k))), (2, .int (nI k))] := lv_sub hl [2, 1, 0] rfl
  have hk : k ≤ nC σ := by omega
  clear hk0
  obtain ⟨fu, hfu⟩ : ∃ fu : Nat, fu = nC σ - k := ⟨_, rfl⟩
  induction fu generalizing k H locs ls with
  | zero =>
    obtain rfl : k = nC σ := by omega
    refine lv_iload_n hx hb dX7_sumOfFees_4 rfl (lv_at hl 2 rfl) ?_
    refine lv_aload_n hx hb dX7_sumOfFees_5 rfl (lv_at hl 0 rfl) ?_
    have hg1 := hG.f7 (hpr 7 (by decide))
    refine m_get (ref := "CardPort") (C := RX7) (T := TX7) (N := 8) (ci := 8) X Y htX7_sumOfFees_wsX701 hg1 rfl 5 (by decide) kwX7_sumOfFees_1 rfl (v := .ref (g.1 9 1)) rfl dX7_sumOfFees_6 ?_
    have hg2 := hG.f9_1 (hpr 9 (by decide))
    refine m_rFi (As := []) (rest := [.int (nI (nC σ))]) X Y hA hcx (c_size l D kc A e0 M (g.1 9 1) (lar e0 σ g 1) (nC σ) (g.2.2.2 1) hg2) (va_cwF 0 X.1.2.2.2.2 gX7_sumOfFees_Jx4a65c_size_8abf5_f94Jx4a65c rfl rfl rfl hcx.1.2.2.2.2.2.2.1 (by decide +kernel) ⟨Nat.le_of_ble_eq_true rfl, Nat.le_of_ble_eq_true rfl⟩) hg2 rfl rfl rfl hl.1 (Nat.le_of_ble_eq_true rfl) dX7_sumOfFees_9 ⟨by decide, by decide⟩ (fun H locs Y => ?_)
    refine n_icmp_ge hx hb 42 (by omega) (by omega) dX7_sumOfFees_14 (by decide) (fun _ => ?_) (fun zq => absurd zq (by omega))
    refine lv_iload_n hx hb dX7_sumOfFees_42 rfl (lv_at hl 1 rfl) ?_
    refine m_iret X Y hr hlocks (by decide) (by decide) ?_ dX7_sumOfFees_43
    exact ⟨rfl, rfl⟩
  | succ fu ih =>
    refine lv_iload_n hx hb dX7_sumOfFees_4 rfl (lv_at hl 2 rfl) ?_
    refine lv_aload_n hx hb dX7_sumOfFees_5 rfl (lv_at hl 0 rfl) ?_
    have hg3 := hG.f7 (hpr 7 (by decide))
    refine m_get (ref := "CardPort") (C := RX7) (T := TX7) (N := 8) (ci := 8) X Y htX7_sumOfFees_wsX701 hg3 rfl 5 (by decide) kwX7_sumOfFees_1 rfl (v := .ref (g.1 9 1)) rfl dX7_sumOfFees_6 ?_
    have hg4 := hG.f9_1 (hpr 9 (by decide))
    refine m_rFi (As := []) (rest := [.int (nI k)]) X Y hA hcx (c_size l D kc A e0 M (g.1 9 1) (lar e0 σ g 1) (nC σ) (g.2.2.2 1) hg4) (va_cwF 0 X.1.2.2.2.2 gX7_sumOfFees_Jx4a65c_size_8abf5_f94Jx4a65c rfl rfl rfl hcx.1.2.2.2.2.2.2.1 (by decide +kernel) ⟨Nat.le_of_ble_eq_true rfl, Nat.le_of_ble_eq_true rfl⟩) hg4 rfl rfl rfl hl.1 (Nat.le_of_ble_eq_true rfl) dX7_sumOfFees_9 ⟨by decide, by decide⟩ (fun H locs Y => ?_)
    refine n_icmp_ge hx hb 42 (by omega) (by omega) dX7_sumOfFees_14 (by decide) (fun zq => absurd zq (by omega)) (fun _ => ?_)
    refine lv_iload_n hx hb dX7_sumOfFees_17 rfl (lv_at hl 1 rfl) ?_
    refine lv_aload_n hx hb dX7_sumOfFees_18 rfl (lv_at hl 0 rfl) ?_
    refine m_get (ref := "CardPort") (C := RX7) (T := TX7) (N := 8) (ci := 8) X Y htX7_sumOfFees_wsX701 hg3 rfl 5 (by decide) kwX7_sumOfFees_1 rfl (v := .ref (g.1 9 1)) rfl dX7_sumOfFees_19 ?_
    refine lv_iload_n hx hb dX7_sumOfFees_22 rfl (lv_at hl 2 rfl) ?_
    obtain ⟨-, el5b, el5c, el5d, el5e⟩ := hG.el1 (hpr 10 (by decide)) (show k < nC σ by omega)
    refine m_rFq (As := [.int (nI k)]) (rest := [.int (nI (feS σ k))]) X Y hA hcx (c_get l D kc A e0 M (g.1 9 1) (lar e0 σ g 1) (nC σ) (g.2.1 1) k (g.1 1 k) (g.2.2.2 1) (g.2.2.1 1) hg4 el5b (show k < nC σ by omega) el5c (by omega) el5e) (va_cwF 1 X.1.2.2.2.2 gX7_sumOfFees_Jx4a65c_get_915e3_f235Jx4a65c rfl rfl rfl hcx.1.2.2.2.2.2.2.2.1 (by decide +kernel) ⟨Nat.le_of_ble_eq_true rfl, Nat.le_of_ble_eq_true rfl⟩) hg4 rfl rfl rfl hl.1 (Nat.le_of_ble_eq_true rfl) dX7_sumOfFees_23 ⟨by decide, by decide⟩ (fun H locs Y => ?_)
    have hg6 := hG.f1 (hpr 1 (by decide)) (show k < nC σ by omega)
    have hw7 := hwf.2.2.2.2.2.2.1 _ (show k < nC σ by omega)
    refine m_cast X Y (C := RX1) kwX7_sumOfFees_2 hg6 rfl dX7_sumOfFees_28 ?_
    refine m_get (ref := "CardPort$Capture") (C := RX1) (T := TX1) (N := 5) (ci := 2) X Y htX7_sumOfFees_wsX102 hg6 rfl 3 (by decide) kwX7_sumOfFees_3 rfl (v := .int (nI (σ.1 14 k))) rfl dX7_sumOfFees_31 ?_
    refine n_iadd hx hb dX7_sumOfFees_34 ?_
    refine lv_istore_n (lv' := [(1, .int (nI ((feS σ k) + (σ.1 14 k)))), (0, .ref (g.1 7 0)), (2, .int (nI k))]) hx hb dX7_sumOfFees_35 rfl hl (by decide) rfl (fun ls hl => ?_)
    refine lv_iinc (v := (nI (k + 1))) (lv' := [(2, .int (nI (k + 1))), (1, .int (nI ((feS σ k) + (σ.1 14 k)))), (0, .ref (g.1 7 0))]) hx hb dX7_sumOfFees_36 hl (k := 2) rfl (nI_add _ 1) (by decide) rfl (fun ls hl => ?_)
    refine lv_goto (tgt := 4) hx hb dX7_sumOfFees_39 (by decide) ?_
    have he1 : feS σ (k + 1) = (feS σ k) + (σ.1 14 k) := by rw [feS]
    exact ih (k := k + 1) (Y := Y) (hl := by rw [he1]; exact (lv_sub hl [2, 1, 0] rfl)) (hfu := by omega) (hk := by omega)
theorem kwX7_payBackToShop_1 : Cond.fieldLink RX7 194 "CardPort$Chargeback" "capture" "LCardPort$Capture;" ∈ wsX7_payBackToShop := List.mem_of_getElem? (i := 1) rfl
theorem htX7_payBackToShop_wsX301 : ∀ w ∈ wsX30, w ∈ wsX7_payBackToShop := fun _ h => List.mem_cons_of_mem _ (List.mem_append_left _ (List.mem_append_left _ (List.mem_append_left _ (List.mem_append_left _ (List.mem_append_left _ (List.mem_append_right _ h))))))
theorem kwX7_payBackToShop_2 : Cond.fieldLink RX7 198 "CardPort$Chargeback" "amount" "I" ∈ wsX7_payBackToShop := List.mem_of_getElem? (i := 2) rfl
set_option maxHeartbeats 4000000 in
set_option maxRecDepth 100000 in
theorem c_pbts (l : Launch) (D : va_G) (kc : Nat → ClassId) (A : Nat → Prop) (e0 : Nat × Nat) (M : Mp) (h0 cq pp cd sh b1 b2 kd am am2 fe rf pa ld pk pv : Nat) (nb nb2 nb3 nb4 nb5 st la : Int32) (x y x2 y2 : Int64) (hm : M h0 = some (.inr (4, [.int nb, .ref cq, .int (nI am), .int st, .int la]))) (hc : M cq = some (.inr (2, [.int nb2, .ref pp, .int (nI am2), .int (nI fe), .int (nI rf)]))) (hp : M pp = some (.inr (6, [.int nb3, .ref cd, .ref sh, .int (nI pa), .int (nI ld), .int (nI pk), .int (nI pv)]))) (hcd : M cd = some (.inr (3, [.int nb4, .ref b2]))) (hsh : M sh = some (.inr (7, [.int nb5, .ref b1, .ref kd]))) (hb2 : M b2 = some (.inr (1, [.long x, .long y]))) (hb1 : M b1 = some (.inr (1, [.long x2, .long y2]))) : Met l yX7_payBackToShop wsX7_payBackToShop ({ frames := 2, cells := 0, slots := 0, locals := 43 }) (mPre D kc A e0 M [.ref h0]) (va_Qv (fun M1 => M1 = mu (mu M b2 (.inr (1, [.long (x + (-(nI am)).toInt64), .long (y + (-(nI am)).toInt64)]))) b1 (if b1 = b2 then .inr (1, [.long (x + (-(nI am)).toInt64 + (nI am).toInt64), .long (y + (-(nI am)).toInt64 + (nI am).toInt64)]) else .inr (1, [.long (x2 + (nI am).toInt64), .long (y2 + (nI am).toInt64)]))) (mB D A) A) 0 0 A := by
  refine Met.ofW (cc := cX7_payBackToShop) (maxL := 1) (ret := none) (by decide) rfl ?_
  intro p e s m args below meth c s₁ B hml hv
  obtain ⟨rfl, hw, hK, hA, hcx⟩ := hv
  have X : mX p s m _ c cX7_payBackToShop 1 RX7 wsX7_payBackToShop D kc := ⟨⟨B.exec, B.bytes, hml, findClass_of_methodNamed B.named, atoms_spec (ws := wsX7_payBackToShop) B.pre⟩, hK⟩
  have hx := B.exec
  have hb := B.bytes
  have hr := B.returns
  have hlocks := B.notSynchronized
  have Y : mY D A M s s.heap [] := ⟨hw, va_S.rf⟩
  have hl := lv_entry ([.ref h0]) (n := 1) (Nat.le_of_ble_eq_true rfl)
  rw [lg_entry_eq]
  generalize (lg_sl ([.ref h0]) ++ List.replicate (1 - (lg_sl ([.ref h0])).length) Slot.unset).toArray = ls at hl ⊢
  have hl : lv_has ls 1 [(0, .ref h0)] := hl
  refine lv_aload_n hx hb dX7_payBackToShop_0 rfl (lv_at hl 0 rfl) ?_
  refine m_get (ref := "CardPort$Chargeback") (C := RX3) (T := TX3) (N := 5) (ci := 4) X Y htX7_payBackToShop_wsX301 hm rfl 1 (by decide) kwX7_payBackToShop_1 rfl (v := .ref cq) rfl dX7_payBackToShop_1 ?_
  refine m_rVq (As := []) (rest := []) X Y hA hcx (c_X1_cardBank l D kc A e0 M cq pp cd sh b2 am2 fe rf pa ld pk pv nb2 nb3 nb4 hc hp hcd) (cwV 0 X.1.2.2.2.2 gX7_payBackToShop_X1_cardBank rfl rfl rfl (by decide +kernel) ⟨Nat.le_of_ble_eq_true rfl, Nat.le_of_ble_eq_true rfl⟩) hc rfl rfl rfl hl.1 (Nat.le_of_ble_eq_true rfl) dX7_payBackToShop_4 ⟨by decide, by decide⟩ (fun H locs Y => ?_)
  refine lv_aload_n hx hb dX7_payBackToShop_7 rfl (lv_at hl 0 rfl) ?_
  refine m_get (ref := "CardPort$Chargeback") (C := RX3) (T := TX3) (N := 5) (ci := 4) X Y htX7_payBackToShop_wsX301 hm rfl 1 (by decide) kwX7_payBackToShop_1 rfl (v := .ref cq) rfl dX7_payBackToShop_8 ?_
  refine m_rVq (As := []) (rest := [.ref b2]) X Y hA hcx (c_X1_shopBank l D kc A e0 M cq pp cd sh b1 kd am2 fe rf pa ld pk pv nb2 nb3 nb5 hc hp hsh) (cwV 0 X.1.2.2.2.2 gX7_payBackToShop_X1_shopBank rfl rfl rfl (by decide +kernel) ⟨Nat.le_of_ble_eq_true rfl, Nat.le_of_ble_eq_true rfl⟩) hc rfl rfl rfl hl.1 (Nat.le_of_ble_eq_true rfl) dX7_payBackToShop_11 ⟨by decide, by decide⟩ (fun H locs Y => ?_)
  refine lv_aload_n hx hb dX7_payBackToShop_14 rfl (lv_at hl 0 rfl) ?_
  refine m_get (ref := "CardPort$Chargeback") (C := RX3) (T := TX3) (N := 5) (ci := 4) X Y htX7_payBackToShop_wsX301 hm rfl 2 (by decide) kwX7_payBackToShop_2 rfl (v := .int (nI am)) rfl dX7_payBackToShop_15 ?_
  refine m_Vv (As := [.ref b1, .int (nI am)]) (rest := []) X Y hA hcx (c_X0_pay l D kc A e0 M b2 b1 x y x2 y2 (nI am) hb2 hb1) (cwV 2 X.1.2.2.2.2 gX7_payBackToShop_X0_pay rfl rfl rfl (by decide +kernel) ⟨Nat.le_of_ble_eq_true rfl, Nat.le_of_ble_eq_true rfl⟩) hb2 rfl rfl rfl hl.1 (Nat.le_of_ble_eq_true rfl) dX7_payBackToShop_18 ⟨by decide, by decide⟩ (fun M1 H locs p2 Y => ?_)
  refine m_vret X Y hr hlocks (by decide) (by decide) ?_ dX7_payBackToShop_21
  exact p2
def pa1 (σ : Sg) (k : Nat) : Sg := (up2 σ.1 0 0 (tD σ + 1), fun t i => if t = 1 ∧ i < k then 0 else σ.2 t i)
def pa2 (σ : Sg) (k : Nat) : Sg := (fun t i => if t = 0 ∧ i = 0 then tD σ + 1 else if t = 17 ∧ i < k then eil (σ.1 17 i) (σ.1 20 i) (tD σ + 1) else σ.1 t i, fun t i => if t = 1 ∧ i < 4 then 0 else σ.2 t i)
theorem pa1_0 (σ : Sg) : pa1 σ 0 = (up2 σ.1 0 0 (tD σ + 1), σ.2) := by
  unfold pa1; congr 1; funext t i; simp
theorem pa2_0 (σ : Sg) : pa2 σ 0 = pa1 σ 4 := by
  unfold pa2 pa1; congr 1; funext t i; simp [up2]
theorem pa2_e (σ : Sg) : pa2 σ (nB σ) = pasS σ 1 := rfl
theorem pa1_s (σ : Sg) (k : Nat) : ((pa1 σ k).1, up2 (up2 (pa1 σ k).2 0 k ((pa1 σ k).2 0 k)) 1 k 0) = pa1 σ (k + 1) := by
  unfold pa1; congr 1; funext t i
  simp only [up2]
  by_cases h1 : t = 1 <;> by_cases h0 : t = 0 <;> by_cases hi : i = k <;> by_cases hk : i < k <;> simp_all <;> omega
theorem pa2_s (σ : Sg) (k : Nat) : (up2 (pa2 σ k).1 17 k (eil (σ.1 17 k) (σ.1 20 k) (tD σ + 1)), (pa2 σ k).2) = pa2 σ (k + 1) := by
  unfold pa2; congr 1; funext t i
  have e9 : i < k + 1 ↔ (i < k ∨ i = k) := by omega
  simp only [up2, e9]
  by_cases h1 : t = 17 <;> by_cases hi : i = k <;> by_cases hk : i < k <;> simp_all
theorem kwX7_beginNextDay_1 : Cond.fieldLink RX7 46 "CardPort" "day" "I" ∈ wsX7_beginNextDay := List.mem_of_getElem? (i := 1) rfl
theorem htX7_beginNextDay_wsX701 : ∀ w ∈ wsX70, w ∈ wsX7_beginNextDay := fun _ h => List.mem_cons_of_mem _ (List.mem_append_left _ (List.mem_append_left _ (List.mem_append_left _ (List.mem_append_right _ h))))
theorem kwX7_beginNextDay_4 : Cond.fieldLink RX7 43 "CardPort" "chargebacks" "Ljava/util/List;" ∈ wsX7_beginNextDay := List.mem_of_getElem? (i := 4) rfl
theorem kwX7_beginNextDay_5 : Cond.classLink RX7 174 "CardPort$Chargeback" ∈ wsX7_beginNextDay := List.mem_of_getElem? (i := 5) rfl
theorem kwX7_beginNextDay_2 : Cond.fieldLink RX7 11 "CardPort" "banks" "[LCardPort$Bank;" ∈ wsX7_beginNextDay := List.mem_of_getElem? (i := 2) rfl
theorem kwX7_beginNextDay_3 : Cond.fieldLink RX7 232 "CardPort$Bank" "netToday" "J" ∈ wsX7_beginNextDay := List.mem_of_getElem? (i := 3) rfl
theorem htX7_beginNextDay_wsX002 : ∀ w ∈ wsX00, w ∈ wsX7_beginNextDay := fun _ h => List.mem_cons_of_mem _ (List.mem_append_left _ (List.mem_append_left _ (List.mem_append_right _ h)))
set_option maxHeartbeats 4000000 in
set_option maxRecDepth 100000 in
theorem c_bnd (l : Launch) (D : va_G) (kc : Nat → ClassId) (A : Nat → Prop) (e0 : Nat × Nat) (M : Mp) {pr : Nat → Prop} {σ τ : Sg} {th : Int32} {o : Int64} {g : Gh} {nn : Nat} (hG : G pr kc e0 σ τ th o g M) (hwf : WS nn σ) (hpr : ∀ t, t ≤ 10 → pr t)  : Met l yX7_beginNextDay wsX7_beginNextDay ({ frames := 3, cells := 0, slots := 0, locals := 64 }) (mPre D kc A e0 M [.ref (g.1 7 0)]) (va_Qv (fun M1 => G pr kc e0 (pasS σ 1) τ th o g M1) (mB D A) A) 0 0 A := by
  refine Met.ofW (cc := cX7_beginNextDay) (maxL := 2) (ret := none) (by decide) rfl ?_
  intro p e s m args below meth c s₁ B hml hv
  obtain ⟨rfl, hw, hK, hA, hcx⟩ := hv
  have X : mX p s m _ c cX7_beginNextDay 2 RX7 wsX7_beginNextDay D kc := ⟨⟨B.exec, B.bytes, hml, findClass_of_methodNamed B.named, atoms_spec (ws := wsX7_beginNextDay) B.pre⟩, hK⟩
  have hx := B.exec
  have hb := B.bytes
  have hr := B.returns
  have hlocks := B.notSynchronized
  have Y : mY D A M s s.heap [] := ⟨hw, va_S.rf⟩
  have hl := lv_entry ([.ref (g.1 7 0)]) (n := 2) (Nat.le_of_ble_eq_true rfl)
  rw [lg_entry_eq]
  generalize (lg_sl ([.ref (g.1 7 0)]) ++ List.replicate (2 - (lg_sl ([.ref (g.1 7 0)])).length) Slot.unset).toArray = ls at hl ⊢
  have hl : lv_has ls 2 [(0, .ref (g.1 7 0))] := hl
  have hwn := hwf.2.2.2.1
  have hwd := hwf.1
  refine lv_aload_n hx hb dX7_beginNextDay_0 rfl (lv_at hl 0 rfl) ?_
  refine lv_dup hx hb dX7_beginNextDay_1 rfl ?_
  have hg1 := hG.f7 (hpr 7 (by decide))
  refine m_get (ref := "CardPort") (C := RX7) (T := TX7) (N := 8) (ci := 8) X Y htX7_beginNextDay_wsX701 hg1 rfl 7 (by decide) kwX7_beginNextDay_1 rfl (v := .int (nI (tD σ))) rfl dX7_beginNextDay_2 ?_
  refine n_iconst hx hb 1 dX7_beginNextDay_5 (by decide) ?_
  refine n_iadd hx hb dX7_beginNextDay_6 ?_
  refine m_put (ref := "CardPort") (C := RX7) (T := TX7) (N := 8) (ci := 8) X Y htX7_beginNextDay_wsX701 tyX7 tyX7_ok nmX7 hg1 rfl 7 (by decide) kwX7_beginNextDay_1 rfl rfl (v := .int (nI ((tD σ) + 1))) rfl rfl (Nat.le_of_ble_eq_true rfl) dX7_beginNextDay_7 (fun H locs Y => ?_)
  obtain ⟨M2, eM2⟩ : ∃ zz9 : Mp, zz9 = mu M (g.1 7 0) (.inr (8, [.ref (g.1 8 0), .ref (g.1 8 1), .ref (g.1 8 2), .ref (g.1 8 3), .ref (g.1 9 0), .ref (g.1 9 1), .ref (g.1 9 2), .int (nI ((tD σ) + 1))])) := ⟨_, rfl⟩
  replace Y : mY D A M2 s H locs := by rw [eM2]; exact Y
  have hh3 : M2 (g.1 7 0) = some (.inr (8, [.ref (g.1 8 0), .ref (g.1 8 1), .ref (g.1 8 2), .ref (g.1 8 3), .ref (g.1 9 0), .ref (g.1 9 1), .ref (g.1 9 2), .int (nI ((tD σ) + 1))])) := by rw [eM2]; exact mu_self _ _ _
  refine n_iconst hx hb 0 dX7_beginNextDay_10 (by decide) ?_
  refine lv_istore_n (lv' := [(1, .int (nI 0)), (0, .ref (g.1 7 0))]) hx hb dX7_beginNextDay_11 rfl hl (by decide) rfl (fun ls hl => ?_)
  have hG1 : G pr kc e0 (pa1 σ 0) τ th o g M2 := by rw [pa1_0, eM2]; exact hG.setDay (hpr 7 (by decide))
  clear hh3
  clear eM2
  obtain ⟨k, hk0⟩ : ∃ k : Nat, k = 0 := ⟨_, rfl⟩
  rw [← hk0] at hG1
  replace hl : lv_has ls 2 [(1, .int (nI k)), (0, .ref (g.1 7 0))] := by
    rw [hk0]; exact hl
  replace hl : lv_has ls 2 [(0, .ref (g.1 7 0)), (1, .int (nI k))] := lv_sub hl [1, 0] rfl
  have hk : k ≤ 4 := by omega
  clear hk0
  obtain ⟨fu, hfu⟩ : ∃ fu : Nat, fu = 4 - k := ⟨_, rfl⟩
  induction fu generalizing k M2 H locs ls with
  | zero =>
    obtain rfl : k = 4 := by omega
    refine lv_iload_n hx hb dX7_beginNextDay_12 rfl (lv_at hl 1 rfl) ?_
    refine n_iconst hx hb 4 dX7_beginNextDay_13 (by decide) ?_
    refine n_icmp_ge hx hb 33 (by omega) (by omega) dX7_beginNextDay_14 (by decide) (fun _ => ?_) (fun zq => absurd zq (by omega))
    refine n_iconst hx hb 0 dX7_beginNextDay_33 (by decide) ?_
    refine lv_istore_n (lv' := [(1, .int (nI 0)), (0, .ref (g.1 7 0))]) hx hb dX7_beginNextDay_34 rfl hl (by decide) rfl (fun ls hl => ?_)
    rw [← pa2_0] at hG1
    obtain ⟨k, hk0⟩ : ∃ k : Nat, k = 0 := ⟨_, rfl⟩
    rw [← hk0] at hG1
    replace hl : lv_has ls 2 [(1, .int (nI k)), (0, .ref (g.1 7 0))] := by
      rw [hk0]; exact hl
    replace hl : lv_has ls 2 [(0, .ref (g.1 7 0)), (1, .int (nI k))] := lv_sub hl [1, 0] rfl
    have hk : k ≤ nB σ := by omega
    clear hk0
    clear hfu
    obtain ⟨fu, hfu⟩ : ∃ fu : Nat, fu = nB σ - k := ⟨_, rfl⟩
    induction fu generalizing k M2 H locs ls with
    | zero =>
      obtain rfl : k = nB σ := by omega
      obtain ⟨k, hk9⟩ : ∃ k : Nat, k = nB σ := ⟨_, rfl⟩
      rw [← hk9] at hG1
      have hnB : nB (pa2 σ k) = nB σ := rfl
      have hg4 := hG1.f7 (hpr 7 (by decide))
      have hg4 : M2 (g.1 7 0) = some (.inr (8, [.ref (g.1 8 0), .ref (g.1 8 1), .ref (g.1 8 2), .ref (g.1 8 3), .ref (g.1 9 0), .ref (g.1 9 1), .ref (g.1 9 2), .int (nI (tD σ + 1))])) := hg4
      have hg5 : M2 (g.1 9 2) = some (.inr (0, [.int (g.2.2.2 2), .ref (lar e0 (pa2 σ k) g 2), .int (nI (nB σ))])) := hG1.f9_2 (hpr 9 (by decide))
      refine lv_iload_n hx hb dX7_beginNextDay_35 rfl (lv_at hl 1 rfl) ?_
      refine lv_aload_n hx hb dX7_beginNextDay_36 rfl (lv_at hl 0 rfl) ?_
      refine m_get (ref := "CardPort") (C := RX7) (T := TX7) (N := 8) (ci := 8) X Y htX7_beginNextDay_wsX701 hg4 rfl 6 (by decide) kwX7_beginNextDay_4 rfl (v := .ref (g.1 9 2)) rfl dX7_beginNextDay_37 ?_
      refine m_rFi (As := []) (rest := [.int (nI (nB σ))]) X Y hA hcx (c_size l D kc A e0 M2 (g.1 9 2) (lar e0 (pa2 σ k) g 2) (nB σ) (g.2.2.2 2) hg5) (va_cwF 0 X.1.2.2.2.2 gX7_beginNextDay_Jx4a65c_size_8abf5_f94Jx4a65c rfl rfl rfl hcx.1.2.2.2.2.2.2.1 (by decide +kernel) ⟨Nat.le_of_ble_eq_true rfl, Nat.le_of_ble_eq_true rfl⟩) hg5 rfl rfl rfl hl.1 (Nat.le_of_ble_eq_true rfl) dX7_beginNextDay_40 ⟨by decide, by decide⟩ (fun H locs Y => ?_)
      refine n_icmp_ge hx hb 74 (by omega) (by omega) dX7_beginNextDay_45 (by decide) (fun _ => ?_) (fun zq => absurd zq (by omega))
      refine m_vret X Y hr hlocks (by decide) (by decide) ?_ dX7_beginNextDay_74
      exact (by rw [← pa2_e, ← hk9]; exact hG1)
    | succ fu ih =>
      have hnB : nB (pa2 σ k) = nB σ := rfl
      have hg6 := hG1.f7 (hpr 7 (by decide))
      have hg6 : M2 (g.1 7 0) = some (.inr (8, [.ref (g.1 8 0), .ref (g.1 8 1), .ref (g.1 8 2), .ref (g.1 8 3), .ref (g.1 9 0), .ref (g.1 9 1), .ref (g.1 9 2), .int (nI (tD σ + 1))])) := hg6
      have hg7 : M2 (g.1 9 2) = some (.inr (0, [.int (g.2.2.2 2), .ref (lar e0 (pa2 σ k) g 2), .int (nI (nB σ))])) := hG1.f9_2 (hpr 9 (by decide))
      have hgk : M2 (g.1 3 k) = some (.inr (4, [.int (nI k), .ref (g.1 1 (σ.1 18 k)), .int (nI (σ.1 19 k)), .int (nI (σ.1 17 k)), .int (cbl (σ.1 17 k) (σ.1 20 k))])) := by have zf := hG1.f3 (hpr 3 (by decide)) (i := k) (show k < nB (pa2 σ k) by omega); simpa [pa2] using zf
      have hwk := hwf.2.2.2.2.2.2.2.2 k (by omega)
      refine lv_iload_n hx hb dX7_beginNextDay_35 rfl (lv_at hl 1 rfl) ?_
      refine lv_aload_n hx hb dX7_beginNextDay_36 rfl (lv_at hl 0 rfl) ?_
      refine m_get (ref := "CardPort") (C := RX7) (T := TX7) (N := 8) (ci := 8) X Y htX7_beginNextDay_wsX701 hg6 rfl 6 (by decide) kwX7_beginNextDay_4 rfl (v := .ref (g.1 9 2)) rfl dX7_beginNextDay_37 ?_
      refine m_rFi (As := []) (rest := [.int (nI k)]) X Y hA hcx (c_size l D kc A e0 M2 (g.1 9 2) (lar e0 (pa2 σ k) g 2) (nB σ) (g.2.2.2 2) hg7) (va_cwF 0 X.1.2.2.2.2 gX7_beginNextDay_Jx4a65c_size_8abf5_f94Jx4a65c rfl rfl rfl hcx.1.2.2.2.2.2.2.1 (by decide +kernel) ⟨Nat.le_of_ble_eq_true rfl, Nat.le_of_ble_eq_true rfl⟩) hg7 rfl rfl rfl hl.1 (Nat.le_of_ble_eq_true rfl) dX7_beginNextDay_40 ⟨by decide, by decide⟩ (fun H locs Y => ?_)
      refine n_icmp_ge hx hb 74 (by omega) (by omega) dX7_beginNextDay_45 (by decide) (fun zq => absurd zq (by omega)) (fun _ => ?_)
      refine lv_aload_n hx hb dX7_beginNextDay_48 rfl (lv_at hl 0 rfl) ?_
      refine m_get (ref := "CardPort") (C := RX7) (T := TX7) (N := 8) (ci := 8) X Y htX7_beginNextDay_wsX701 hg6 rfl 6 (by decide) kwX7_beginNextDay_4 rfl (v := .ref (g.1 9 2)) rfl dX7_beginNextDay_49 ?_
      refine lv_iload_n hx hb dX7_beginNextDay_52 rfl (lv_at hl 1 rfl) ?_
      obtain ⟨-, elb, elc, eld, ele⟩ := hG1.el2 (hpr 10 (by decide)) (j := k) (show k < nB (pa2 σ k) by omega)
      refine m_rFq (As := [.int (nI k)]) (rest := []) X Y hA hcx (c_get l D kc A e0 M2 (g.1 9 2) (lar e0 (pa2 σ k) g 2) (nB σ) (g.2.1 2) k (g.1 3 k) (g.2.2.2 2) (g.2.2.1 2) hg7 elb (by omega) (by omega) (by omega) ele) (va_cwF 1 X.1.2.2.2.2 gX7_beginNextDay_Jx4a65c_get_915e3_f235Jx4a65c rfl rfl rfl hcx.1.2.2.2.2.2.2.2.1 (by decide +kernel) ⟨Nat.le_of_ble_eq_true rfl, Nat.le_of_ble_eq_true rfl⟩) hg7 rfl rfl rfl hl.1 (Nat.le_of_ble_eq_true rfl) dX7_beginNextDay_53 ⟨by decide, by decide⟩ (fun H locs Y => ?_)
      refine m_cast X Y (C := RX3) kwX7_beginNextDay_5 hgk rfl dX7_beginNextDay_58 ?_
      refine lv_aload_n hx hb dX7_beginNextDay_61 rfl (lv_at hl 0 rfl) ?_
      refine m_get (ref := "CardPort") (C := RX7) (T := TX7) (N := 8) (ci := 8) X Y htX7_beginNextDay_wsX701 hg6 rfl 7 (by decide) kwX7_beginNextDay_1 rfl (v := .int (nI (tD σ + 1))) rfl dX7_beginNextDay_62 ?_
      refine m_Vv (As := [.int (nI (tD σ + 1))]) (rest := []) X Y hA hcx (c_X3_endIfLate l D kc A e0 M2 (g.1 3 k) (g.1 1 (σ.1 18 k)) (σ.1 19 k) (σ.1 17 k) (σ.1 20 k) (tD σ + 1) (nI k) hgk (by omega) (by omega) (by omega)) (cwV 1 X.1.2.2.2.2 gX7_beginNextDay_X3_endIfLate rfl rfl rfl (by decide +kernel) ⟨Nat.le_of_ble_eq_true rfl, Nat.le_of_ble_eq_true rfl⟩) hgk rfl rfl rfl hl.1 (Nat.le_of_ble_eq_true rfl) dX7_beginNextDay_65 ⟨by decide, by decide⟩ (fun M8 H locs p9 Y => ?_)
      refine lv_iinc (v := (nI (k + 1))) (lv' := [(1, .int (nI (k + 1))), (0, .ref (g.1 7 0))]) hx hb dX7_beginNextDay_68 hl (k := 1) rfl (nI_add _ 1) (by decide) rfl (fun ls hl => ?_)
      refine lv_goto (tgt := 35) hx hb dX7_beginNextDay_71 (by decide) ?_
      have eM9 : M8 = mu M2 (g.1 3 k) (.inr (4, [.int (nI k), .ref (g.1 1 (σ.1 18 k)), .int (nI (σ.1 19 k)), .int (nI (eil (σ.1 17 k) (σ.1 20 k) (tD σ + 1))), .int (cbl (eil (σ.1 17 k) (σ.1 20 k) (tD σ + 1)) (σ.1 20 k))])) := by
        funext z9; by_cases hz9 : z9 = g.1 3 k
        · rw [hz9, p9.1, mu_self]
        · rw [mu_ne _ _ hz9]; exact p9.2 z9 hz9
      have hG2 : G pr kc e0 (pa2 σ (k + 1)) τ th o g M8 := by rw [← pa2_s, eM9]; exact hG1.setSt (hpr 3 (by decide)) (i := k) (show k < nB (pa2 σ k) by omega)
      exact ih (k := k + 1) (M2 := M8) (Y := Y) (hl := (lv_sub hl [1, 0] rfl)) (hfu := by omega) (hk := by omega) (hG1 := hG2)
  | succ fu ih =>
    have hg10 := hG1.f7 (hpr 7 (by decide))
    have hgb := hG1.f8_0 (hpr 8 (by decide))
    have hgk := hG1.f0 (hpr 0 (by decide)) (show k < 4 by omega)
    refine lv_iload_n hx hb dX7_beginNextDay_12 rfl (lv_at hl 1 rfl) ?_
    refine n_iconst hx hb 4 dX7_beginNextDay_13 (by decide) ?_
    refine n_icmp_ge hx hb 33 (by omega) (by omega) dX7_beginNextDay_14 (by decide) (fun zq => absurd zq (by omega)) (fun _ => ?_)
    refine lv_aload_n hx hb dX7_beginNextDay_17 rfl (lv_at hl 0 rfl) ?_
    refine m_get (ref := "CardPort") (C := RX7) (T := TX7) (N := 8) (ci := 8) X Y htX7_beginNextDay_wsX701 hg10 rfl 0 (by decide) kwX7_beginNextDay_2 rfl (v := .ref (g.1 8 0)) rfl dX7_beginNextDay_18 ?_
    refine lv_iload_n hx hb dX7_beginNextDay_21 rfl (lv_at hl 1 rfl) ?_
    refine m_aald X Y 3 (C := RX0) rfl hgb (vp_in_nI (show k < 4 by omega) (by decide)) (v := g.1 0 k) (by rw [nI_cl (by have := (show k < 4 by omega); omega)]; exact if_pos (show k < 4 by omega)) dX7_beginNextDay_22 ?_
    refine lv_lconst (v := 0) hx hb dX7_beginNextDay_23 (by decide) ?_
    refine m_put (ref := "CardPort$Bank") (C := RX0) (T := TX0) (N := 2) (ci := 1) X Y htX7_beginNextDay_wsX002 tyX0 tyX0_ok nmX0 hgk rfl 1 (by decide) kwX7_beginNextDay_3 rfl rfl (v := .long 0) rfl rfl (Nat.le_of_ble_eq_true rfl) dX7_beginNextDay_24 (fun H locs Y => ?_)
    obtain ⟨M11, eM11⟩ : ∃ zz9 : Mp, zz9 = mu M2 (g.1 0 k) (.inr (1, [.long (lI ((pa1 σ k).2 0 k)), .long 0])) := ⟨_, rfl⟩
    replace Y : mY D A M11 s H locs := by rw [eM11]; exact Y
    have hh12 : M11 (g.1 0 k) = some (.inr (1, [.long (lI ((pa1 σ k).2 0 k)), .long 0])) := by rw [eM11]; exact mu_self _ _ _
    refine lv_iinc (v := (nI (k + 1))) (lv' := [(1, .int (nI (k + 1))), (0, .ref (g.1 7 0))]) hx hb dX7_beginNextDay_27 hl (k := 1) rfl (nI_add _ 1) (by decide) rfl (fun ls hl => ?_)
    refine lv_goto (tgt := 12) hx hb dX7_beginNextDay_30 (by decide) ?_
    have hG2 : G pr kc e0 (pa1 σ (k + 1)) τ th o g M11 := by rw [← pa1_s, eM11]; exact hG1.setBk (w := 0) (hpr 0 (by decide)) (show k < 4 by omega)
    exact ih (k := k + 1) (M2 := M11) (Y := Y) (hl := (lv_sub hl [1, 0] rfl)) (hfu := by omega) (hk := by omega) (hG1 := hG2)
