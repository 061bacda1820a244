theorem kwX7_nextDueBehind_1 : Cond.fieldLink RX7 43 "CardPort" "chargebacks" "Ljava/util/List;" ∈ wsX7_nextDueBehind := List.mem_of_getElem? (i := 1) rfl
theorem htX7_nextDueBehind_wsX701 : ∀ w ∈ wsX70, w ∈ wsX7_nextDueBehind := fun _ h => List.mem_cons_of_mem _ (List.mem_append_left _ (List.mem_append_left _ (List.mem_append_right _ h)))
theorem kwX7_nextDueBehind_2 : Cond.classLink RX7 174 "CardPort$Chargeback" ∈ wsX7_nextDueBehind := List.mem_of_getElem? (i := 2) rfl
set_option maxHeartbeats 4000000 in
set_option maxRecDepth 100000 in
theorem c_nxn (l : Launch) (D : va_G) (kc : Nat → ClassId) (A : Nat → Prop) (e0 : Nat × Nat) (M : Mp) {pr : Nat → Prop} {σ τ : Sg} {th : Int32} {o : Int64} {g : Gh} {nn : Nat} (hG : G pr kc e0 σ τ th o g M) (hwf : WS nn σ) (hpr : ∀ t, t ≤ 10 → pr t)  : Met l yX7_nextDueBehind wsX7_nextDueBehind ({ frames := 3, cells := 0, slots := 0, locals := 64 }) (mPre D kc A e0 M [.ref (g.1 7 0), .null]) (va_Qq (fun r M1 => ∃ r9 : Option Nat, r = r9.map (g.1 3) ∧ nxR σ none (nB σ) r9 ∧ M1 = M ∧ ∀ m, r9 = some m → m < nB σ) (mB D A) A) 0 0 A := by
  refine Met.ofW (cc := cX7_nextDueBehind) (maxL := 6) (ret := (some (.object "CardPort$Chargeback"))) (by decide) rfl ?_
  intro p e s m args below meth c s₁ B hml hv
  obtain ⟨rfl, hw, hK, hA, hcx⟩ := hv
  have X : mX p s m _ c cX7_nextDueBehind 6 RX7 wsX7_nextDueBehind D kc := ⟨⟨B.exec, B.bytes, hml, findClass_of_methodNamed B.named, atoms_spec (ws := wsX7_nextDueBehind) B.pre⟩, hK⟩
  have hx := B.exec
  have hb := B.bytes
  have hr := B.returns
  have hlocks := B.notSynchronized
  have Y : mY D A M s s.heap [] := ⟨hw, va_S.rf⟩
  have hl := lv_entry ([.ref (g.1 7 0), .null]) (n := 6) (Nat.le_of_ble_eq_true rfl)
  rw [lg_entry_eq]
  generalize (lg_sl ([.ref (g.1 7 0), .null]) ++ List.replicate (6 - (lg_sl ([.ref (g.1 7 0), .null])).length) Slot.unset).toArray = ls at hl ⊢
  have hl : lv_has ls 6 [(0, .ref (g.1 7 0)), (1, .null)] := hl
  have hwn := hwf.2.2.2.1
  have hwd := hwf.1
  refine lv_null hx hb dX7_nextDueBehind_0 ?_
  refine lv_astore_nN (lv' := [(2, .null), (0, .ref (g.1 7 0)), (1, .null)]) hx hb dX7_nextDueBehind_1 rfl hl (by decide) rfl (fun ls hl => ?_)
  refine n_iconst hx hb 0 dX7_nextDueBehind_2 (by decide) ?_
  refine lv_istore_n (lv' := [(3, .int (nI 0)), (2, .null), (0, .ref (g.1 7 0)), (1, .null)]) hx hb dX7_nextDueBehind_3 rfl hl (by decide) rfl (fun ls hl => ?_)
  generalize s.heap = H at Y ⊢
  generalize ([] : List Loc) = locs at Y ⊢
  obtain ⟨k, hk0⟩ : ∃ k : Nat, k = 0 := ⟨_, rfl⟩
  obtain ⟨nx, hnx⟩ : ∃ nx : Option Nat, nx = none := ⟨_, rfl⟩
  replace hl : lv_has ls 6 [(3, .int (nI k)), (2, va_rf (nx.map (g.1 3))), (0, .ref (g.1 7 0)), (1, .null)] := by
    rw [hk0, hnx]; exact hl
  replace hl : lv_has ls 6 [(0, .ref (g.1 7 0)), (1, .null), (2, va_rf (nx.map (g.1 3))), (3, .int (nI k))] := lv_sub hl [2, 3, 1, 0] rfl
  have hinv : nxR σ none k nx := by rw [hk0, hnx]; rfl
  have hmk : ∀ mm, nx = some mm → mm < k := fun mm zq => by rw [hnx] at zq; cases zq
  have hk : k ≤ nB σ := by omega
  clear hk0 hnx
  obtain ⟨fu, hfu⟩ : ∃ fu : Nat, fu = nB σ - k := ⟨_, rfl⟩
  induction fu generalizing k nx H locs ls with
  | zero =>
    obtain rfl : k = nB σ := by omega
    cases nx with
    | none =>
      replace hl : lv_has ls 6 [(0, .ref (g.1 7 0)), (1, .null), (2, .null), (3, .int (nI (nB σ)))] := by
        exact hl
      refine lv_iload_n hx hb dX7_nextDueBehind_4 rfl (lv_at hl 3 rfl) ?_
      refine lv_aload_n hx hb dX7_nextDueBehind_5 rfl (lv_at hl 0 rfl) ?_
      have hg1 := hG.f7 (hpr 7 (by decide))
      refine m_get (ref := "CardPort") (C := RX7) (T := TX7) (N := 8) (ci := 8) X Y htX7_nextDueBehind_wsX701 hg1 rfl 6 (by decide) kwX7_nextDueBehind_1 rfl (v := .ref (g.1 9 2)) rfl dX7_nextDueBehind_6 ?_
      have hg2 := hG.f9_2 (hpr 9 (by decide))
      refine m_rFi (As := []) (rest := [.int (nI (nB σ))]) X Y hA hcx (c_size l D kc A e0 M (g.1 9 2) (lar e0 σ g 2) (nB σ) (g.2.2.2 2) hg2) (va_cwF 0 X.1.2.2.2.2 gX7_nextDueBehind_Jx4a65c_size_8abf5_f94Jx4a65c rfl rfl rfl hcx.1.2.2.2.2.2.2.1 (by decide +kernel) ⟨Nat.le_of_ble_eq_true rfl, Nat.le_of_ble_eq_true rfl⟩) hg2 rfl rfl rfl hl.1 (Nat.le_of_ble_eq_true rfl) dX7_nextDueBehind_9 ⟨by decide, by decide⟩ (fun H locs Y => ?_)
      refine n_icmp_ge hx hb 87 (by omega) (by omega) dX7_nextDueBehind_14 (by decide) (fun _ => ?_) (fun zq => absurd zq (by omega))
      refine lv_aload_nN hx hb dX7_nextDueBehind_87 rfl (lv_at hl 2 rfl) ?_
      refine m_aret X Y hr (Or.inl ⟨_, rfl⟩) hlocks (by decide) (by decide) none ?_ dX7_nextDueBehind_88
      exact ⟨none, rfl, hinv, rfl, fun m9 z9 => hmk m9 z9⟩
    | some mm =>
      replace hl : lv_has ls 6 [(0, .ref (g.1 7 0)), (1, .null), (2, .ref (g.1 3 mm)), (3, .int (nI (nB σ)))] := by
        exact hl
      have hmm := hmk mm rfl
      refine lv_iload_n hx hb dX7_nextDueBehind_4 rfl (lv_at hl 3 rfl) ?_
      refine lv_aload_n hx hb dX7_nextDueBehind_5 rfl (lv_at hl 0 rfl) ?_
      have hg3 := hG.f7 (hpr 7 (by decide))
      refine m_get (ref := "CardPort") (C := RX7) (T := TX7) (N := 8) (ci := 8) X Y htX7_nextDueBehind_wsX701 hg3 rfl 6 (by decide) kwX7_nextDueBehind_1 rfl (v := .ref (g.1 9 2)) rfl dX7_nextDueBehind_6 ?_
      have hg4 := hG.f9_2 (hpr 9 (by decide))
      refine m_rFi (As := []) (rest := [.int (nI (nB σ))]) X Y hA hcx (c_size l D kc A e0 M (g.1 9 2) (lar e0 σ g 2) (nB σ) (g.2.2.2 2) hg4) (va_cwF 0 X.1.2.2.2.2 gX7_nextDueBehind_Jx4a65c_size_8abf5_f94Jx4a65c rfl rfl rfl hcx.1.2.2.2.2.2.2.1 (by decide +kernel) ⟨Nat.le_of_ble_eq_true rfl, Nat.le_of_ble_eq_true rfl⟩) hg4 rfl rfl rfl hl.1 (Nat.le_of_ble_eq_true rfl) dX7_nextDueBehind_9 ⟨by decide, by decide⟩ (fun H locs Y => ?_)
      refine n_icmp_ge hx hb 87 (by omega) (by omega) dX7_nextDueBehind_14 (by decide) (fun _ => ?_) (fun zq => absurd zq (by omega))
      refine lv_aload_n hx hb dX7_nextDueBehind_87 rfl (lv_at hl 2 rfl) ?_
      refine m_aret X Y hr (Or.inl ⟨_, rfl⟩) hlocks (by decide) (by decide) (some (g.1 3 mm)) ?_ dX7_nextDueBehind_88
      exact ⟨(some mm), rfl, hinv, rfl, fun m9 z9 => hmk m9 z9⟩
  | succ fu ih =>
    cases nx with
    | none =>
      replace hl : lv_has ls 6 [(0, .ref (g.1 7 0)), (1, .null), (2, .null), (3, .int (nI k))] := by
        exact hl
      refine lv_iload_n hx hb dX7_nextDueBehind_4 rfl (lv_at hl 3 rfl) ?_
      refine lv_aload_n hx hb dX7_nextDueBehind_5 rfl (lv_at hl 0 rfl) ?_
      have hg5 := hG.f7 (hpr 7 (by decide))
      refine m_get (ref := "CardPort") (C := RX7) (T := TX7) (N := 8) (ci := 8) X Y htX7_nextDueBehind_wsX701 hg5 rfl 6 (by decide) kwX7_nextDueBehind_1 rfl (v := .ref (g.1 9 2)) rfl dX7_nextDueBehind_6 ?_
      have hg6 := hG.f9_2 (hpr 9 (by decide))
      refine m_rFi (As := []) (rest := [.int (nI k)]) X Y hA hcx (c_size l D kc A e0 M (g.1 9 2) (lar e0 σ g 2) (nB σ) (g.2.2.2 2) hg6) (va_cwF 0 X.1.2.2.2.2 gX7_nextDueBehind_Jx4a65c_size_8abf5_f94Jx4a65c rfl rfl rfl hcx.1.2.2.2.2.2.2.1 (by decide +kernel) ⟨Nat.le_of_ble_eq_true rfl, Nat.le_of_ble_eq_true rfl⟩) hg6 rfl rfl rfl hl.1 (Nat.le_of_ble_eq_true rfl) dX7_nextDueBehind_9 ⟨by decide, by decide⟩ (fun H locs Y => ?_)
      refine n_icmp_ge hx hb 87 (by omega) (by omega) dX7_nextDueBehind_14 (by decide) (fun zq => absurd zq (by omega)) (fun _ => ?_)
      refine lv_aload_n hx hb dX7_nextDueBehind_17 rfl (lv_at hl 0 rfl) ?_
      refine m_get (ref := "CardPort") (C := RX7) (T := TX7) (N := 8) (ci := 8) X Y htX7_nextDueBehind_wsX701 hg5 rfl 6 (by decide) kwX7_nextDueBehind_1 rfl (v := .ref (g.1 9 2)) rfl dX7_nextDueBehind_18 ?_
      refine lv_iload_n hx hb dX7_nextDueBehind_21 rfl (lv_at hl 3 rfl) ?_
      obtain ⟨-, el7b, el7c, el7d, el7e⟩ := hG.el2 (hpr 10 (by decide)) (show k < nB σ by omega)
      refine m_rFq (As := [.int (nI k)]) (rest := []) X Y hA hcx (c_get l D kc A e0 M (g.1 9 2) (lar e0 σ g 2) (nB σ) (g.2.1 2) k (g.1 3 k) (g.2.2.2 2) (g.2.2.1 2) hg6 el7b (show k < nB σ by omega) el7c (by omega) el7e) (va_cwF 1 X.1.2.2.2.2 gX7_nextDueBehind_Jx4a65c_get_915e3_f235Jx4a65c rfl rfl rfl hcx.1.2.2.2.2.2.2.2.1 (by decide +kernel) ⟨Nat.le_of_ble_eq_true rfl, Nat.le_of_ble_eq_true rfl⟩) hg6 rfl rfl rfl hl.1 (Nat.le_of_ble_eq_true rfl) dX7_nextDueBehind_22 ⟨by decide, by decide⟩ (fun H locs Y => ?_)
      have hg8 := hG.f3 (hpr 3 (by decide)) (show k < nB σ by omega)
      have hw9 := hwf.2.2.2.2.2.2.2.2 _ (show k < nB σ by omega)
      refine m_cast X Y (C := RX3) kwX7_nextDueBehind_2 hg8 rfl dX7_nextDueBehind_27 ?_
      refine lv_astore (lv' := [(4, .ref (g.1 3 k)), (0, .ref (g.1 7 0)), (1, .null), (2, .null), (3, .int (nI k))]) hx hb dX7_nextDueBehind_30 hl (by decide) rfl (fun ls hl => ?_)
      refine lv_aload_nN hx hb dX7_nextDueBehind_32 rfl (lv_at hl 2 rfl) ?_
      refine lv_ifnullN (tgt := 45) hx hb dX7_nextDueBehind_33 (by decide) ?_
      refine n_iconst hx hb 1 dX7_nextDueBehind_45 (by decide) ?_
      refine lv_goto (tgt := 50) hx hb dX7_nextDueBehind_46 (by decide) ?_
      refine lv_istore (lv' := [(5, .int (nI 1)), (4, .ref (g.1 3 k)), (0, .ref (g.1 7 0)), (1, .null), (2, .null), (3, .int (nI k))]) hx hb dX7_nextDueBehind_50 hl (by decide) rfl (fun ls hl => ?_)
      refine lv_aload hx hb dX7_nextDueBehind_52 (lv_at hl 1 rfl) ?_
      refine m_rVi (As := []) (rest := []) X Y hA hcx (c_X3_hasDeadline l D kc A e0 M (g.1 3 k) (g.1 1 (σ.1 18 k)) (σ.1 19 k) (σ.1 17 k) (nI k) (cbl (σ.1 17 k) (σ.1 20 k)) hg8 (by omega)) (cwV 0 X.1.2.2.2.2 gX7_nextDueBehind_X3_hasDeadline rfl rfl rfl (by decide +kernel) ⟨Nat.le_of_ble_eq_true rfl, Nat.le_of_ble_eq_true rfl⟩) hg8 rfl rfl rfl hl.1 (Nat.le_of_ble_eq_true rfl) dX7_nextDueBehind_54 ⟨by decide, by decide⟩ (fun H locs Y => ?_)
      by_cases hdu : σ.1 17 k ≤ 1
      · refine n_top (bN_t hdu) ?_
        refine n_if_eq hx hb 81 (by omega) dX7_nextDueBehind_57 (by decide) (fun zq => absurd zq (by decide)) (fun _ => ?_)
        refine lv_iload hx hb dX7_nextDueBehind_60 (lv_at hl 0 rfl) ?_
        refine n_if_eq hx hb 81 (by omega) dX7_nextDueBehind_62 (by decide) (fun zq => absurd zq (by decide)) (fun _ => ?_)
        refine lv_aload_nN hx hb dX7_nextDueBehind_65 rfl (lv_at hl 4 rfl) ?_
        refine lv_ifnullN (tgt := 78) hx hb dX7_nextDueBehind_66 (by decide) ?_
        refine lv_aload hx hb dX7_nextDueBehind_78 (lv_at hl 1 rfl) ?_
        refine lv_astore_n (lv' := [(2, .ref (g.1 3 k)), (5, .int (nI 1)), (4, .ref (g.1 3 k)), (0, .ref (g.1 7 0)), (1, .null), (3, .int (nI k))]) hx hb dX7_nextDueBehind_80 rfl hl (by decide) rfl (fun ls hl => ?_)
        refine lv_iinc (v := (nI (k + 1))) (lv' := [(3, .int (nI (k + 1))), (2, .ref (g.1 3 k)), (5, .int (nI 1)), (4, .ref (g.1 3 k)), (0, .ref (g.1 7 0)), (1, .null)]) hx hb dX7_nextDueBehind_81 hl (k := 5) rfl (nI_add _ 1) (by decide) rfl (fun ls hl => ?_)
        refine lv_goto (tgt := 4) hx hb dX7_nextDueBehind_84 (by decide) ?_
        exact ih (k := k + 1) (nx := (some k)) (Y := Y) (hl := (lv_sub hl [4, 5, 1, 0] rfl)) (hfu := by omega) (hk := by omega) (hinv := ⟨none, hinv, ⟨fun _ => rfl, fun zq => absurd ⟨hdu, trivial, Or.inl rfl⟩ zq⟩⟩) (hmk := fun mm zq => by cases zq; omega)
      · refine n_top (bN_f hdu) ?_
        refine n_if_eq hx hb 81 (by omega) dX7_nextDueBehind_57 (by decide) (fun _ => ?_) (fun zq => absurd zq (by decide))
        refine lv_iinc (v := (nI (k + 1))) (lv' := [(3, .int (nI (k + 1))), (5, .int (nI 1)), (4, .ref (g.1 3 k)), (0, .ref (g.1 7 0)), (1, .null), (2, .null)]) hx hb dX7_nextDueBehind_81 hl (k := 5) rfl (nI_add _ 1) (by decide) rfl (fun ls hl => ?_)
        refine lv_goto (tgt := 4) hx hb dX7_nextDueBehind_84 (by decide) ?_
        exact ih (k := k + 1) (nx := none) (Y := Y) (hl := (lv_sub hl [3, 4, 5, 0] rfl)) (hfu := by omega) (hk := by omega) (hinv := ⟨none, hinv, ⟨fun zq => absurd zq (fun zq => hdu zq.1), fun _ => rfl⟩⟩) (hmk := fun mm zq => by have := hmk mm zq; omega)
    | some mm =>
      replace hl : lv_has ls 6 [(0, .ref (g.1 7 0)), (1, .null), (2, .ref (g.1 3 mm)), (3, .int (nI k))] := by
        exact hl
      have hmm := hmk mm rfl
      refine lv_iload_n hx hb dX7_nextDueBehind_4 rfl (lv_at hl 3 rfl) ?_
      refine lv_aload_n hx hb dX7_nextDueBehind_5 rfl (lv_at hl 0 rfl) ?_
      have hg10 := hG.f7 (hpr 7 (by decide))
      refine m_get (ref := "CardPort") (C := RX7) (T := TX7) (N := 8) (ci := 8) X Y htX7_nextDueBehind_wsX701 hg10 rfl 6 (by decide) kwX7_nextDueBehind_1 rfl (v := .ref (g.1 9 2)) rfl dX7_nextDueBehind_6 ?_
      have hg11 := hG.f9_2 (hpr 9 (by decide))
      refine m_rFi (As := []) (rest := [.int (nI k)]) X Y hA hcx (c_size l D kc A e0 M (g.1 9 2) (lar e0 σ g 2) (nB σ) (g.2.2.2 2) hg11) (va_cwF 0 X.1.2.2.2.2 gX7_nextDueBehind_Jx4a65c_size_8abf5_f94Jx4a65c rfl rfl rfl hcx.1.2.2.2.2.2.2.1 (by decide +kernel) ⟨Nat.le_of_ble_eq_true rfl, Nat.le_of_ble_eq_true rfl⟩) hg11 rfl rfl rfl hl.1 (Nat.le_of_ble_eq_true rfl) dX7_nextDueBehind_9 ⟨by decide, by decide⟩ (fun H locs Y => ?_)
      refine n_icmp_ge hx hb 87 (by omega) (by omega) dX7_nextDueBehind_14 (by decide) (fun zq => absurd zq (by omega)) (fun _ => ?_)
      refine lv_aload_n hx hb dX7_nextDueBehind_17 rfl (lv_at hl 0 rfl) ?_
      refine m_get (ref := "CardPort") (C := RX7) (T := TX7) (N := 8) (ci := 8) X Y htX7_nextDueBehind_wsX701 hg10 rfl 6 (by decide) kwX7_nextDueBehind_1 rfl (v := .ref (g.1 9 2)) rfl dX7_nextDueBehind_18 ?_
      refine lv_iload_n hx hb dX7_nextDueBehind_21 rfl (lv_at hl 3 rfl) ?_
      obtain ⟨-, el12b, el12c, el12d, el12e⟩ := hG.el2 (hpr 10 (by decide)) (show k < nB σ by omega)
      refine m_rFq (As := [.int (nI k)]) (rest := []) X Y hA hcx (c_get l D kc A e0 M (g.1 9 2) (lar e0 σ g 2) (nB σ) (g.2.1 2) k (g.1 3 k) (g.2.2.2 2) (g.2.2.1 2) hg11 el12b (show k < nB σ by omega) el12c (by omega) el12e) (va_cwF 1 X.1.2.2.2.2 gX7_nextDueBehind_Jx4a65c_get_915e3_f235Jx4a65c rfl rfl rfl hcx.1.2.2.2.2.2.2.2.1 (by decide +kernel) ⟨Nat.le_of_ble_eq_true rfl, Nat.le_of_ble_eq_true rfl⟩) hg11 rfl rfl rfl hl.1 (Nat.le_of_ble_eq_true rfl) dX7_nextDueBehind_22 ⟨by decide, by decide⟩ (fun H locs Y => ?_)
      have hg13 := hG.f3 (hpr 3 (by decide)) (show k < nB σ by omega)
      have hw14 := hwf.2.2.2.2.2.2.2.2 _ (show k < nB σ by omega)
      refine m_cast X Y (C := RX3) kwX7_nextDueBehind_2 hg13 rfl dX7_nextDueBehind_27 ?_
      refine lv_astore (lv' := [(4, .ref (g.1 3 k)), (0, .ref (g.1 7 0)), (1, .null), (2, .ref (g.1 3 mm)), (3, .int (nI k))]) hx hb dX7_nextDueBehind_30 hl (by decide) rfl (fun ls hl => ?_)
      refine lv_aload_nN hx hb dX7_nextDueBehind_32 rfl (lv_at hl 2 rfl) ?_
      refine lv_ifnullN (tgt := 45) hx hb dX7_nextDueBehind_33 (by decide) ?_
      refine n_iconst hx hb 1 dX7_nextDueBehind_45 (by decide) ?_
      refine lv_goto (tgt := 50) hx hb dX7_nextDueBehind_46 (by decide) ?_
      refine lv_istore (lv' := [(5, .int (nI 1)), (4, .ref (g.1 3 k)), (0, .ref (g.1 7 0)), (1, .null), (2, .ref (g.1 3 mm)), (3, .int (nI k))]) hx hb dX7_nextDueBehind_50 hl (by decide) rfl (fun ls hl => ?_)
      refine lv_aload hx hb dX7_nextDueBehind_52 (lv_at hl 1 rfl) ?_
      refine m_rVi (As := []) (rest := []) X Y hA hcx (c_X3_hasDeadline l D kc A e0 M (g.1 3 k) (g.1 1 (σ.1 18 k)) (σ.1 19 k) (σ.1 17 k) (nI k) (cbl (σ.1 17 k) (σ.1 20 k)) hg13 (by omega)) (cwV 0 X.1.2.2.2.2 gX7_nextDueBehind_X3_hasDeadline rfl rfl rfl (by decide +kernel) ⟨Nat.le_of_ble_eq_true rfl, Nat.le_of_ble_eq_true rfl⟩) hg13 rfl rfl rfl hl.1 (Nat.le_of_ble_eq_true rfl) dX7_nextDueBehind_54 ⟨by decide, by decide⟩ (fun H locs Y => ?_)
      by_cases hdu : σ.1 17 k ≤ 1
      · refine n_top (bN_t hdu) ?_
        refine n_if_eq hx hb 81 (by omega) dX7_nextDueBehind_57 (by decide) (fun zq => absurd zq (by decide)) (fun _ => ?_)
        refine lv_iload hx hb dX7_nextDueBehind_60 (lv_at hl 0 rfl) ?_
        refine n_if_eq hx hb 81 (by omega) dX7_nextDueBehind_62 (by decide) (fun zq => absurd zq (by decide)) (fun _ => ?_)
        refine lv_aload_n hx hb dX7_nextDueBehind_65 rfl (lv_at hl 4 rfl) ?_
        refine lv_ifnull hx hb dX7_nextDueBehind_66 ?_
        refine lv_aload hx hb dX7_nextDueBehind_69 (lv_at hl 1 rfl) ?_
        refine lv_aload_n hx hb dX7_nextDueBehind_71 rfl (lv_at hl 4 rfl) ?_
        have hg15 := hG.f3 (hpr 3 (by decide)) (show mm < nB σ by omega)
        have hw16 := hwf.2.2.2.2.2.2.2.2 _ (show mm < nB σ by omega)
        refine m_rVi (As := [.ref (g.1 3 mm)]) (rest := []) X Y hA hcx (c_X3_isDueBefore l D kc A e0 M (g.1 3 k) (g.1 3 mm) (g.1 1 (σ.1 18 k)) (g.1 1 (σ.1 18 mm)) (σ.1 19 k) (σ.1 19 mm) (σ.1 17 k) (σ.1 17 mm) k mm (cbl (σ.1 17 k) (σ.1 20 k)) (cbl (σ.1 17 mm) (σ.1 20 mm)) hg13 hg15 (by omega) (by omega) (by omega) (by omega)) (cwV 1 X.1.2.2.2.2 gX7_nextDueBehind_X3_isDueBefore rfl rfl rfl (by decide +kernel) ⟨Nat.le_of_ble_eq_true rfl, Nat.le_of_ble_eq_true rfl⟩) hg13 rfl rfl rfl hl.1 (Nat.le_of_ble_eq_true rfl) dX7_nextDueBehind_72 ⟨by decide, by decide⟩ (fun H locs Y => ?_)
        by_cases hbm : bef σ k mm
        · refine n_top (bN_t hbm) ?_
          refine n_if_eq hx hb 81 (by omega) dX7_nextDueBehind_75 (by decide) (fun zq => absurd zq (by decide)) (fun _ => ?_)
          refine lv_aload hx hb dX7_nextDueBehind_78 (lv_at hl 1 rfl) ?_
          refine lv_astore_n (lv' := [(2, .ref (g.1 3 k)), (5, .int (nI 1)), (4, .ref (g.1 3 k)), (0, .ref (g.1 7 0)), (1, .null), (3, .int (nI k))]) hx hb dX7_nextDueBehind_80 rfl hl (by decide) rfl (fun ls hl => ?_)
          refine lv_iinc (v := (nI (k + 1))) (lv' := [(3, .int (nI (k + 1))), (2, .ref (g.1 3 k)), (5, .int (nI 1)), (4, .ref (g.1 3 k)), (0, .ref (g.1 7 0)), (1, .null)]) hx hb dX7_nextDueBehind_81 hl (k := 5) rfl (nI_add _ 1) (by decide) rfl (fun ls hl => ?_)
          refine lv_goto (tgt := 4) hx hb dX7_nextDueBehind_84 (by decide) ?_
          exact ih (k := k + 1) (nx := (some k)) (Y := Y) (hl := (lv_sub hl [4, 5, 1, 0] rfl)) (hfu := by omega) (hk := by omega) (hinv := ⟨(some mm), hinv, ⟨fun _ => rfl, fun zq => absurd ⟨hdu, trivial, Or.inr ⟨mm, rfl, hbm⟩⟩ zq⟩⟩) (hmk := fun mm zq => by cases zq; omega)
        · refine n_top (bN_f hbm) ?_
          refine n_if_eq hx hb 81 (by omega) dX7_nextDueBehind_75 (by decide) (fun _ => ?_) (fun zq => absurd zq (by decide))
          refine lv_iinc (v := (nI (k + 1))) (lv' := [(3, .int (nI (k + 1))), (5, .int (nI 1)), (4, .ref (g.1 3 k)), (0, .ref (g.1 7 0)), (1, .null), (2, .ref (g.1 3 mm))]) hx hb dX7_nextDueBehind_81 hl (k := 5) rfl (nI_add _ 1) (by decide) rfl (fun ls hl => ?_)
          refine lv_goto (tgt := 4) hx hb dX7_nextDueBehind_84 (by decide) ?_
          exact ih (k := k + 1) (nx := (some mm)) (Y := Y) (hl := (lv_sub hl [3, 4, 5, 0] rfl)) (hfu := by omega) (hk := by omega) (hinv := ⟨(some mm), hinv, ⟨fun zq => absurd zq (fun zq => (zq.2.2.elim (fun z9 => nomatch z9) (fun z9 => by obtain ⟨m9, z8, z7⟩ := z9; cases z8; exact hbm z7))), fun _ => rfl⟩⟩) (hmk := fun mm zq => by have := hmk mm zq; omega)
      · refine n_top (bN_f hdu) ?_
        refine n_if_eq hx hb 81 (by omega) dX7_nextDueBehind_57 (by decide) (fun _ => ?_) (fun zq => absurd zq (by decide))
        refine lv_iinc (v := (nI (k + 1))) (lv' := [(3, .int (nI (k + 1))), (5, .int (nI 1)), (4, .ref (g.1 3 k)), (0, .ref (g.1 7 0)), (1, .null), (2, .ref (g.1 3 mm))]) hx hb dX7_nextDueBehind_81 hl (k := 5) rfl (nI_add _ 1) (by decide) rfl (fun ls hl => ?_)
        refine lv_goto (tgt := 4) hx hb dX7_nextDueBehind_84 (by decide) ?_
        exact ih (k := k + 1) (nx := (some mm)) (Y := Y) (hl := (lv_sub hl [3, 4, 5, 0] rfl)) (hfu := by omega) (hk := by omega) (hinv := ⟨(some mm), hinv, ⟨fun zq => absurd zq (fun zq => hdu zq.1), fun _ => rfl⟩⟩) (hmk := fun mm zq => by have := hmk mm zq; omega)
set_option maxHeartbeats 4000000 in
set_option maxRecDepth 100000 in
theorem c_nxs (l : Launch) (D : va_G) (kc : Nat → ClassId) (A : Nat → Prop) (e0 : Nat × Nat) (M : Mp) {pr : Nat → Prop} {σ τ : Sg} {th : Int32} {o : Int64} {g : Gh} {nn : Nat} (hG : G pr kc e0 σ τ th o g M) (hwf : WS nn σ) (hpr : ∀ t, t ≤ 10 → pr t) (x : Nat) (hx9 : x < nB σ) : Met l yX7_nextDueBehind wsX7_nextDueBehind ({ frames := 3, cells := 0, slots := 0, locals := 64 }) (mPre D kc A e0 M [.ref (g.1 7 0), .ref (g.1 3 x)]) (va_Qq (fun r M1 => ∃ r9 : Option Nat, r = r9.map (g.1 3) ∧ nxR σ (some x) (nB σ) r9 ∧ M1 = M ∧ ∀ m, r9 = some m → m < nB σ) (mB D A) A) 0 0 A := by
  refine Met.ofW (cc := cX7_nextDueBehind) (maxL := 6) (ret := (some (.object "CardPort$Chargeback"))) (by decide) rfl ?_
  intro p e s m args below meth c s₁ B hml hv
  obtain ⟨rfl, hw, hK, hA, hcx⟩ := hv
  have X : mX p s m _ c cX7_nextDueBehind 6 RX7 wsX7_nextDueBehind D kc := ⟨⟨B.exec, B.bytes, hml, findClass_of_methodNamed B.named, atoms_spec (ws := wsX7_nextDueBehind) B.pre⟩, hK⟩
  have hx := B.exec
  have hb := B.bytes
  have hr := B.returns
  have hlocks := B.notSynchronized
  have Y : mY D A M s s.heap [] := ⟨hw, va_S.rf⟩
  have hl := lv_entry ([.ref (g.1 7 0), .ref (g.1 3 x)]) (n := 6) (Nat.le_of_ble_eq_true rfl)
  rw [lg_entry_eq]
  generalize (lg_sl ([.ref (g.1 7 0), .ref (g.1 3 x)]) ++ List.replicate (6 - (lg_sl ([.ref (g.1 7 0), .ref (g.1 3 x)])).length) Slot.unset).toArray = ls at hl ⊢
  have hl : lv_has ls 6 [(0, .ref (g.1 7 0)), (1, .ref (g.1 3 x))] := hl
  have hwn := hwf.2.2.2.1
  have hwd := hwf.1
  refine lv_null hx hb dX7_nextDueBehind_0 ?_
  refine lv_astore_nN (lv' := [(2, .null), (0, .ref (g.1 7 0)), (1, .ref (g.1 3 x))]) hx hb dX7_nextDueBehind_1 rfl hl (by decide) rfl (fun ls hl => ?_)
  refine n_iconst hx hb 0 dX7_nextDueBehind_2 (by decide) ?_
  refine lv_istore_n (lv' := [(3, .int (nI 0)), (2, .null), (0, .ref (g.1 7 0)), (1, .ref (g.1 3 x))]) hx hb dX7_nextDueBehind_3 rfl hl (by decide) rfl (fun ls hl => ?_)
  generalize s.heap = H at Y ⊢
  generalize ([] : List Loc) = locs at Y ⊢
  obtain ⟨k, hk0⟩ : ∃ k : Nat, k = 0 := ⟨_, rfl⟩
  obtain ⟨nx, hnx⟩ : ∃ nx : Option Nat, nx = none := ⟨_, rfl⟩
  replace hl : lv_has ls 6 [(3, .int (nI k)), (2, va_rf (nx.map (g.1 3))), (0, .ref (g.1 7 0)), (1, .ref (g.1 3 x))] := by
    rw [hk0, hnx]; exact hl
  replace hl : lv_has ls 6 [(0, .ref (g.1 7 0)), (1, .ref (g.1 3 x)), (2, va_rf (nx.map (g.1 3))), (3, .int (nI k))] := lv_sub hl [2, 3, 1, 0] rfl
  have hinv : nxR σ (some x) k nx := by rw [hk0, hnx]; rfl
  have hmk : ∀ mm, nx = some mm → mm < k := fun mm zq => by rw [hnx] at zq; cases zq
  have hk : k ≤ nB σ := by omega
  clear hk0 hnx
  obtain ⟨fu, hfu⟩ : ∃ fu : Nat, fu = nB σ - k := ⟨_, rfl⟩
  induction fu generalizing k nx H locs ls with
  | zero =>
    obtain rfl : k = nB σ := by omega
    cases nx with
    | none =>
      replace hl : lv_has ls 6 [(0, .ref (g.1 7 0)), (1, .ref (g.1 3 x)), (2, .null), (3, .int (nI (nB σ)))] := by
        exact hl
      refine lv_iload_n hx hb dX7_nextDueBehind_4 rfl (lv_at hl 3 rfl) ?_
      refine lv_aload_n hx hb dX7_nextDueBehind_5 rfl (lv_at hl 0 rfl) ?_
      have hg1 := hG.f7 (hpr 7 (by decide))
      refine m_get (ref := "CardPort") (C := RX7) (T := TX7) (N := 8) (ci := 8) X Y htX7_nextDueBehind_wsX701 hg1 rfl 6 (by decide) kwX7_nextDueBehind_1 rfl (v := .ref (g.1 9 2)) rfl dX7_nextDueBehind_6 ?_
      have hg2 := hG.f9_2 (hpr 9 (by decide))
      refine m_rFi (As := []) (rest := [.int (nI (nB σ))]) X Y hA hcx (c_size l D kc A e0 M (g.1 9 2) (lar e0 σ g 2) (nB σ) (g.2.2.2 2) hg2) (va_cwF 0 X.1.2.2.2.2 gX7_nextDueBehind_Jx4a65c_size_8abf5_f94Jx4a65c rfl rfl rfl hcx.1.2.2.2.2.2.2.1 (by decide +kernel) ⟨Nat.le_of_ble_eq_true rfl, Nat.le_of_ble_eq_true rfl⟩) hg2 rfl rfl rfl hl.1 (Nat.le_of_ble_eq_true rfl) dX7_nextDueBehind_9 ⟨by decide, by decide⟩ (fun H locs Y => ?_)
      refine n_icmp_ge hx hb 87 (by omega) (by omega) dX7_nextDueBehind_14 (by decide) (fun _ => ?_) (fun zq => absurd zq (by omega))
      refine lv_aload_nN hx hb dX7_nextDueBehind_87 rfl (lv_at hl 2 rfl) ?_
      refine m_aret X Y hr (Or.inl ⟨_, rfl⟩) hlocks (by decide) (by decide) none ?_ dX7_nextDueBehind_88
      exact ⟨none, rfl, hinv, rfl, fun m9 z9 => hmk m9 z9⟩
    | some mm =>
      replace hl : lv_has ls 6 [(0, .ref (g.1 7 0)), (1, .ref (g.1 3 x)), (2, .ref (g.1 3 mm)), (3, .int (nI (nB σ)))] := by
        exact hl
      have hmm := hmk mm rfl
      refine lv_iload_n hx hb dX7_nextDueBehind_4 rfl (lv_at hl 3 rfl) ?_
      refine lv_aload_n hx hb dX7_nextDueBehind_5 rfl (lv_at hl 0 rfl) ?_
      have hg3 := hG.f7 (hpr 7 (by decide))
      refine m_get (ref := "CardPort") (C := RX7) (T := TX7) (N := 8) (ci := 8) X Y htX7_nextDueBehind_wsX701 hg3 rfl 6 (by decide) kwX7_nextDueBehind_1 rfl (v := .ref (g.1 9 2)) rfl dX7_nextDueBehind_6 ?_
      have hg4 := hG.f9_2 (hpr 9 (by decide))
      refine m_rFi (As := []) (rest := [.int (nI (nB σ))]) X Y hA hcx (c_size l D kc A e0 M (g.1 9 2) (lar e0 σ g 2) (nB σ) (g.2.2.2 2) hg4) (va_cwF 0 X.1.2.2.2.2 gX7_nextDueBehind_Jx4a65c_size_8abf5_f94Jx4a65c rfl rfl rfl hcx.1.2.2.2.2.2.2.1 (by decide +kernel) ⟨Nat.le_of_ble_eq_true rfl, Nat.le_of_ble_eq_true rfl⟩) hg4 rfl rfl rfl hl.1 (Nat.le_of_ble_eq_true rfl) dX7_nextDueBehind_9 ⟨by decide, by decide⟩ (fun H locs Y => ?_)
      refine n_icmp_ge hx hb 87 (by omega) (by omega) dX7_nextDueBehind_14 (by decide) (fun _ => ?_) (fun zq => absurd zq (by omega))
      refine lv_aload_n hx hb dX7_nextDueBehind_87 rfl (lv_at hl 2 rfl) ?_
      refine m_aret X Y hr (Or.inl ⟨_, rfl⟩) hlocks (by decide) (by decide) (some (g.1 3 mm)) ?_ dX7_nextDueBehind_88
      exact ⟨(some mm), rfl, hinv, rfl, fun m9 z9 => hmk m9 z9⟩
  | succ fu ih =>
    cases nx with
    | none =>
      replace hl : lv_has ls 6 [(0, .ref (g.1 7 0)), (1, .ref (g.1 3 x)), (2, .null), (3, .int (nI k))] := by
        exact hl
      refine lv_iload_n hx hb dX7_nextDueBehind_4 rfl (lv_at hl 3 rfl) ?_
      refine lv_aload_n hx hb dX7_nextDueBehind_5 rfl (lv_at hl 0 rfl) ?_
      have hg5 := hG.f7 (hpr 7 (by decide))
      refine m_get (ref := "CardPort") (C := RX7) (T := TX7) (N := 8) (ci := 8) X Y htX7_nextDueBehind_wsX701 hg5 rfl 6 (by decide) kwX7_nextDueBehind_1 rfl (v := .ref (g.1 9 2)) rfl dX7_nextDueBehind_6 ?_
      have hg6 := hG.f9_2 (hpr 9 (by decide))
      refine m_rFi (As := []) (rest := [.int (nI k)]) X Y hA hcx (c_size l D kc A e0 M (g.1 9 2) (lar e0 σ g 2) (nB σ) (g.2.2.2 2) hg6) (va_cwF 0 X.1.2.2.2.2 gX7_nextDueBehind_Jx4a65c_size_8abf5_f94Jx4a65c rfl rfl rfl hcx.1.2.2.2.2.2.2.1 (by decide +kernel) ⟨Nat.le_of_ble_eq_true rfl, Nat.le_of_ble_eq_true rfl⟩) hg6 rfl rfl rfl hl.1 (Nat.le_of_ble_eq_true rfl) dX7_nextDueBehind_9 ⟨by decide, by decide⟩ (fun H locs Y => ?_)
      refine n_icmp_ge hx hb 87 (by omega) (by omega) dX7_nextDueBehind_14 (by decide) (fun zq => absurd zq (by omega)) (fun _ => ?_)
      refine lv_aload_n hx hb dX7_nextDueBehind_17 rfl (lv_at hl 0 rfl) ?_
      refine m_get (ref := "CardPort") (C := RX7) (T := TX7) (N := 8) (ci := 8) X Y htX7_nextDueBehind_wsX701 hg5 rfl 6 (by decide) kwX7_nextDueBehind_1 rfl (v := .ref (g.1 9 2)) rfl dX7_nextDueBehind_18 ?_
      refine lv_iload_n hx hb dX7_nextDueBehind_21 rfl (lv_at hl 3 rfl) ?_
      obtain ⟨-, el7b, el7c, el7d, el7e⟩ := hG.el2 (hpr 10 (by decide)) (show k < nB σ by omega)
      refine m_rFq (As := [.int (nI k)]) (rest := []) X Y hA hcx (c_get l D kc A e0 M (g.1 9 2) (lar e0 σ g 2) (nB σ) (g.2.1 2) k (g.1 3 k) (g.2.2.2 2) (g.2.2.1 2) hg6 el7b (show k < nB σ by omega) el7c (by omega) el7e) (va_cwF 1 X.1.2.2.2.2 gX7_nextDueBehind_Jx4a65c_get_915e3_f235Jx4a65c rfl rfl rfl hcx.1.2.2.2.2.2.2.2.1 (by decide +kernel) ⟨Nat.le_of_ble_eq_true rfl, Nat.le_of_ble_eq_true rfl⟩) hg6 rfl rfl rfl hl.1 (Nat.le_of_ble_eq_true rfl) dX7_nextDueBehind_22 ⟨by decide, by decide⟩ (fun H locs Y => ?_)
      have hg8 := hG.f3 (hpr 3 (by decide)) (show k < nB σ by omega)
      have hw9 := hwf.2.2.2.2.2.2.2.2 _ (show k < nB σ by omega)
      refine m_cast X Y (C := RX3) kwX7_nextDueBehind_2 hg8 rfl dX7_nextDueBehind_27 ?_
      refine lv_astore (lv' := [(4, .ref (g.1 3 k)), (0, .ref (g.1 7 0)), (1, .ref (g.1 3 x)), (2, .null), (3, .int (nI k))]) hx hb dX7_nextDueBehind_30 hl (by decide) rfl (fun ls hl => ?_)
      refine lv_aload_n hx hb dX7_nextDueBehind_32 rfl (lv_at hl 2 rfl) ?_
      refine lv_ifnull hx hb dX7_nextDueBehind_33 ?_
      refine lv_aload_n hx hb dX7_nextDueBehind_36 rfl (lv_at hl 2 rfl) ?_
      refine lv_aload hx hb dX7_nextDueBehind_37 (lv_at hl 0 rfl) ?_
      have hg10 := hG.f3 (hpr 3 (by decide)) hx9
      have hw11 := hwf.2.2.2.2.2.2.2.2 _ hx9
      refine m_rVi (As := [.ref (g.1 3 k)]) (rest := []) X Y hA hcx (c_X3_isDueBefore l D kc A e0 M (g.1 3 x) (g.1 3 k) (g.1 1 (σ.1 18 x)) (g.1 1 (σ.1 18 k)) (σ.1 19 x) (σ.1 19 k) (σ.1 17 x) (σ.1 17 k) x k (cbl (σ.1 17 x) (σ.1 20 x)) (cbl (σ.1 17 k) (σ.1 20 k)) hg10 hg8 (by omega) (by omega) (by omega) (by omega)) (cwV 1 X.1.2.2.2.2 gX7_nextDueBehind_X3_isDueBefore rfl rfl rfl (by decide +kernel) ⟨Nat.le_of_ble_eq_true rfl, Nat.le_of_ble_eq_true rfl⟩) hg10 rfl rfl rfl hl.1 (Nat.le_of_ble_eq_true rfl) dX7_nextDueBehind_39 ⟨by decide, by decide⟩ (fun H locs Y => ?_)
      by_cases hbx : bef σ x k
      · refine n_top (bN_t hbx) ?_
        refine n_if_eq hx hb 49 (by omega) dX7_nextDueBehind_42 (by decide) (fun zq => absurd zq (by decide)) (fun _ => ?_)
        refine n_iconst hx hb 1 dX7_nextDueBehind_45 (by decide) ?_
        refine lv_goto (tgt := 50) hx hb dX7_nextDueBehind_46 (by decide) ?_
        refine lv_istore (lv' := [(5, .int (nI 1)), (4, .ref (g.1 3 k)), (0, .ref (g.1 7 0)), (1, .ref (g.1 3 x)), (2, .null), (3, .int (nI k))]) hx hb dX7_nextDueBehind_50 hl (by decide) rfl (fun ls hl => ?_)
        refine lv_aload hx hb dX7_nextDueBehind_52 (lv_at hl 1 rfl) ?_
        refine m_rVi (As := []) (rest := []) X Y hA hcx (c_X3_hasDeadline l D kc A e0 M (g.1 3 k) (g.1 1 (σ.1 18 k)) (σ.1 19 k) (σ.1 17 k) (nI k) (cbl (σ.1 17 k) (σ.1 20 k)) hg8 (by omega)) (cwV 0 X.1.2.2.2.2 gX7_nextDueBehind_X3_hasDeadline rfl rfl rfl (by decide +kernel) ⟨Nat.le_of_ble_eq_true rfl, Nat.le_of_ble_eq_true rfl⟩) hg8 rfl rfl rfl hl.1 (Nat.le_of_ble_eq_true rfl) dX7_nextDueBehind_54 ⟨by decide, by decide⟩ (fun H locs Y => ?_)
        by_cases hdu : σ.1 17 k ≤ 1
        · refine n_top (bN_t hdu) ?_
          refine n_if_eq hx hb 81 (by omega) dX7_nextDueBehind_57 (by decide) (fun zq => absurd zq (by decide)) (fun _ => ?_)
          refine lv_iload hx hb dX7_nextDueBehind_60 (lv_at hl 0 rfl) ?_
          refine n_if_eq hx hb 81 (by omega) dX7_nextDueBehind_62 (by decide) (fun zq => absurd zq (by decide)) (fun _ => ?_)
          refine lv_aload_nN hx hb dX7_nextDueBehind_65 rfl (lv_at hl 4 rfl) ?_
          refine lv_ifnullN (tgt := 78) hx hb dX7_nextDueBehind_66 (by decide) ?_
          refine lv_aload hx hb dX7_nextDueBehind_78 (lv_at hl 1 rfl) ?_
          refine lv_astore_n (lv' := [(2, .ref (g.1 3 k)), (5, .int (nI 1)), (4, .ref (g.1 3 k)), (0, .ref (g.1 7 0)), (1, .ref (g.1 3 x)), (3, .int (nI k))]) hx hb dX7_nextDueBehind_80 rfl hl (by decide) rfl (fun ls hl => ?_)
          refine lv_iinc (v := (nI (k + 1))) (lv' := [(3, .int (nI (k + 1))), (2, .ref (g.1 3 k)), (5, .int (nI 1)), (4, .ref (g.1 3 k)), (0, .ref (g.1 7 0)), (1, .ref (g.1 3 x))]) hx hb dX7_nextDueBehind_81 hl (k := 5) rfl (nI_add _ 1) (by decide) rfl (fun ls hl => ?_)
          refine lv_goto (tgt := 4) hx hb dX7_nextDueBehind_84 (by decide) ?_
          exact ih (k := k + 1) (nx := (some k)) (Y := Y) (hl := (lv_sub hl [4, 5, 1, 0] rfl)) (hfu := by omega) (hk := by omega) (hinv := ⟨none, hinv, ⟨fun _ => rfl, fun zq => absurd ⟨hdu, hbx, Or.inl rfl⟩ zq⟩⟩) (hmk := fun mm zq => by cases zq; omega)
        · refine n_top (bN_f hdu) ?_
          refine n_if_eq hx hb 81 (by omega) dX7_nextDueBehind_57 (by decide) (fun _ => ?_) (fun zq => absurd zq (by decide))
          refine lv_iinc (v := (nI (k + 1))) (lv' := [(3, .int (nI (k + 1))), (5, .int (nI 1)), (4, .ref (g.1 3 k)), (0, .ref (g.1 7 0)), (1, .ref (g.1 3 x)), (2, .null)]) hx hb dX7_nextDueBehind_81 hl (k := 5) rfl (nI_add _ 1) (by decide) rfl (fun ls hl => ?_)
          refine lv_goto (tgt := 4) hx hb dX7_nextDueBehind_84 (by decide) ?_
          exact ih (k := k + 1) (nx := none) (Y := Y) (hl := (lv_sub hl [3, 4, 5, 0] rfl)) (hfu := by omega) (hk := by omega) (hinv := ⟨none, hinv, ⟨fun zq => absurd zq (fun zq => hdu zq.1), fun _ => rfl⟩⟩) (hmk := fun mm zq => by have := hmk mm zq; omega)
      · refine n_top (bN_f hbx) ?_
        refine n_if_eq hx hb 49 (by omega) dX7_nextDueBehind_42 (by decide) (fun _ => ?_) (fun zq => absurd zq (by decide))
        refine n_iconst hx hb 0 dX7_nextDueBehind_49 (by decide) ?_
        refine lv_istore (lv' := [(5, .int (nI 0)), (4, .ref (g.1 3 k)), (0, .ref (g.1 7 0)), (1, .ref (g.1 3 x)), (2, .null), (3, .int (nI k))]) hx hb dX7_nextDueBehind_50 hl (by decide) rfl (fun ls hl => ?_)
        refine lv_aload hx hb dX7_nextDueBehind_52 (lv_at hl 1 rfl) ?_
        refine m_rVi (As := []) (rest := []) X Y hA hcx (c_X3_hasDeadline l D kc A e0 M (g.1 3 k) (g.1 1 (σ.1 18 k)) (σ.1 19 k) (σ.1 17 k) (nI k) (cbl (σ.1 17 k) (σ.1 20 k)) hg8 (by omega)) (cwV 0 X.1.2.2.2.2 gX7_nextDueBehind_X3_hasDeadline rfl rfl rfl (by decide +kernel) ⟨Nat.le_of_ble_eq_true rfl, Nat.le_of_ble_eq_true rfl⟩) hg8 rfl rfl rfl hl.1 (Nat.le_of_ble_eq_true rfl) dX7_nextDueBehind_54 ⟨by decide, by decide⟩ (fun H locs Y => ?_)
        by_cases hdu : σ.1 17 k ≤ 1
        · refine n_top (bN_t hdu) ?_
          refine n_if_eq hx hb 81 (by omega) dX7_nextDueBehind_57 (by decide) (fun zq => absurd zq (by decide)) (fun _ => ?_)
          refine lv_iload hx hb dX7_nextDueBehind_60 (lv_at hl 0 rfl) ?_
          refine n_if_eq hx hb 81 (by omega) dX7_nextDueBehind_62 (by decide) (fun _ => ?_) (fun zq => absurd zq (by decide))
          refine lv_iinc (v := (nI (k + 1))) (lv' := [(3, .int (nI (k + 1))), (5, .int (nI 0)), (4, .ref (g.1 3 k)), (0, .ref (g.1 7 0)), (1, .ref (g.1 3 x)), (2, .null)]) hx hb dX7_nextDueBehind_81 hl (k := 5) rfl (nI_add _ 1) (by decide) rfl (fun ls hl => ?_)
          refine lv_goto (tgt := 4) hx hb dX7_nextDueBehind_84 (by decide) ?_
          exact ih (k := k + 1) (nx := none) (Y := Y) (hl := (lv_sub hl [3, 4, 5, 0] rfl)) (hfu := by omega) (hk := by omega) (hinv := ⟨none, hinv, ⟨fun zq => absurd zq (fun zq => hbx zq.2.1), fun _ => rfl⟩⟩) (hmk := fun mm zq => by have := hmk mm zq; omega)
        · refine n_top (bN_f hdu) ?_
          refine n_if_eq hx hb 81 (by omega) dX7_nextDueBehind_57 (by decide) (fun _ => ?_) (fun zq => absurd zq (by decide))
          refine lv_iinc (v := (nI (k + 1))) (lv' := [(3, .int (nI (k + 1))), (5, .int (nI 0)), (4, .ref (g.1 3 k)), (0, .ref (g.1 7 0)), (1, .ref (g.1 3 x)), (2, .null)]) hx hb dX7_nextDueBehind_81 hl (k := 5) rfl (nI_add _ 1) (by decide) rfl (fun ls hl => ?_)
          refine lv_goto (tgt := 4) hx hb dX7_nextDueBehind_84 (by decide) ?_
          exact ih (k := k + 1) (nx := none) (Y := Y) (hl := (lv_sub hl [3, 4, 5, 0] rfl)) (hfu := by omega) (hk := by omega) (hinv := ⟨none, hinv, ⟨fun zq => absurd zq (fun zq => hdu zq.1), fun _ => rfl⟩⟩) (hmk := fun mm zq => by have := hmk mm zq; omega)
    | some mm =>
      replace hl : lv_has ls 6 [(0, .ref (g.1 7 0)), (1, .ref (g.1 3 x)), (2, .ref (g.1 3 mm)), (3, .int (nI k))] := by
        exact hl
      have hmm := hmk mm rfl
      refine lv_iload_n hx hb dX7_nextDueBehind_4 rfl (lv_at hl 3 rfl) ?_
      refine lv_aload_n hx hb dX7_nextDueBehind_5 rfl (lv_at hl 0 rfl) ?_
      have hg12 := hG.f7 (hpr 7 (by decide))
      refine m_get (ref := "CardPort") (C := RX7) (T := TX7) (N := 8) (ci := 8) X Y htX7_nextDueBehind_wsX701 hg12 rfl 6 (by decide) kwX7_nextDueBehind_1 rfl (v := .ref (g.1 9 2)) rfl dX7_nextDueBehind_6 ?_
      have hg13 := hG.f9_2 (hpr 9 (by decide))
      refine m_rFi (As := []) (rest := [.int (nI k)]) X Y hA hcx (c_size l D kc A e0 M (g.1 9 2) (lar e0 σ g 2) (nB σ) (g.2.2.2 2) hg13) (va_cwF 0 X.1.2.2.2.2 gX7_nextDueBehind_Jx4a65c_size_8abf5_f94Jx4a65c rfl rfl rfl hcx.1.2.2.2.2.2.2.1 (by decide +kernel) ⟨Nat.le_of_ble_eq_true rfl, Nat.le_of_ble_eq_true rfl⟩) hg13 rfl rfl rfl hl.1 (Nat.le_of_ble_eq_true rfl) dX7_nextDueBehind_9 ⟨by decide, by decide⟩ (fun H locs Y => ?_)
      refine n_icmp_ge hx hb 87 (by omega) (by omega) dX7_nextDueBehind_14 (by decide) (fun zq => absurd zq (by omega)) (fun _ => ?_)
      refine lv_aload_n hx hb dX7_nextDueBehind_17 rfl (lv_at hl 0 rfl) ?_
      refine m_get (ref := "CardPort") (C := RX7) (T := TX7) (N := 8) (ci := 8) X Y htX7_nextDueBehind_wsX701 hg12 rfl 6 (by decide) kwX7_nextDueBehind_1 rfl (v := .ref (g.1 9 2)) rfl dX7_nextDueBehind_18 ?_
      refine lv_iload_n hx hb dX7_nextDueBehind_21 rfl (lv_at hl 3 rfl) ?_
      obtain ⟨-, el14b, el14c, el14d, el14e⟩ := hG.el2 (hpr 10 (by decide)) (show k < nB σ by omega)
      refine m_rFq (As := [.int (nI k)]) (rest := []) X Y hA hcx (c_get l D kc A e0 M (g.1 9 2) (lar e0 σ g 2) (nB σ) (g.2.1 2) k (g.1 3 k) (g.2.2.2 2) (g.2.2.1 2) hg13 el14b (show k < nB σ by omega) el14c (by omega) el14e) (va_cwF 1 X.1.2.2.2.2 gX7_nextDueBehind_Jx4a65c_get_915e3_f235Jx4a65c rfl rfl rfl hcx.1.2.2.2.2.2.2.2.1 (by decide +kernel) ⟨Nat.le_of_ble_eq_true rfl, Nat.le_of_ble_eq_true rfl⟩) hg13 rfl rfl rfl hl.1 (Nat.le_of_ble_eq_true rfl) dX7_nextDueBehind_22 ⟨by decide, by decide⟩ (fun H locs Y => ?_)
      have hg15 := hG.f3 (hpr 3 (by decide)) (show k < nB σ by omega)
      have hw16 := hwf.2.2.2.2.2.2.2.2 _ (show k < nB σ by omega)
      refine m_cast X Y (C := RX3) kwX7_nextDueBehind_2 hg15 rfl dX7_nextDueBehind_27 ?_
      refine lv_astore (lv' := [(4, .ref (g.1 3 k)), (0, .ref (g.1 7 0)), (1, .ref (g.1 3 x)), (2, .ref (g.1 3 mm)), (3, .int (nI k))]) hx hb dX7_nextDueBehind_30 hl (by decide) rfl (fun ls hl => ?_)
      refine lv_aload_n hx hb dX7_nextDueBehind_32 rfl (lv_at hl 2 rfl) ?_
      refine lv_ifnull hx hb dX7_nextDueBehind_33 ?_
      refine lv_aload_n hx hb dX7_nextDueBehind_36 rfl (lv_at hl 2 rfl) ?_
      refine lv_aload hx hb dX7_nextDueBehind_37 (lv_at hl 0 rfl) ?_
      have hg17 := hG.f3 (hpr 3 (by decide)) hx9
      have hw18 := hwf.2.2.2.2.2.2.2.2 _ hx9
      refine m_rVi (As := [.ref (g.1 3 k)]) (rest := []) X Y hA hcx (c_X3_isDueBefore l D kc A e0 M (g.1 3 x) (g.1 3 k) (g.1 1 (σ.1 18 x)) (g.1 1 (σ.1 18 k)) (σ.1 19 x) (σ.1 19 k) (σ.1 17 x) (σ.1 17 k) x k (cbl (σ.1 17 x) (σ.1 20 x)) (cbl (σ.1 17 k) (σ.1 20 k)) hg17 hg15 (by omega) (by omega) (by omega) (by omega)) (cwV 1 X.1.2.2.2.2 gX7_nextDueBehind_X3_isDueBefore rfl rfl rfl (by decide +kernel) ⟨Nat.le_of_ble_eq_true rfl, Nat.le_of_ble_eq_true rfl⟩) hg17 rfl rfl rfl hl.1 (Nat.le_of_ble_eq_true rfl) dX7_nextDueBehind_39 ⟨by decide, by decide⟩ (fun H locs Y => ?_)
      by_cases hbx : bef σ x k
      · refine n_top (bN_t hbx) ?_
        refine n_if_eq hx hb 49 (by omega) dX7_nextDueBehind_42 (by decide) (fun zq => absurd zq (by decide)) (fun _ => ?_)
        refine n_iconst hx hb 1 dX7_nextDueBehind_45 (by decide) ?_
        refine lv_goto (tgt := 50) hx hb dX7_nextDueBehind_46 (by decide) ?_
        refine lv_istore (lv' := [(5, .int (nI 1)), (4, .ref (g.1 3 k)), (0, .ref (g.1 7 0)), (1, .ref (g.1 3 x)), (2, .ref (g.1 3 mm)), (3, .int (nI k))]) hx hb dX7_nextDueBehind_50 hl (by decide) rfl (fun ls hl => ?_)
        refine lv_aload hx hb dX7_nextDueBehind_52 (lv_at hl 1 rfl) ?_
        refine m_rVi (As := []) (rest := []) X Y hA hcx (c_X3_hasDeadline l D kc A e0 M (g.1 3 k) (g.1 1 (σ.1 18 k)) (σ.1 19 k) (σ.1 17 k) (nI k) (cbl (σ.1 17 k) (σ.1 20 k)) hg15 (by omega)) (cwV 0 X.1.2.2.2.2 gX7_nextDueBehind_X3_hasDeadline rfl rfl rfl (by decide +kernel) ⟨Nat.le_of_ble_eq_true rfl, Nat.le_of_ble_eq_true rfl⟩) hg15 rfl rfl rfl hl.1 (Nat.le_of_ble_eq_true rfl) dX7_nextDueBehind_54 ⟨by decide, by decide⟩ (fun H locs Y => ?_)
        by_cases hdu : σ.1 17 k ≤ 1
        · refine n_top (bN_t hdu) ?_
          refine n_if_eq hx hb 81 (by omega) dX7_nextDueBehind_57 (by decide) (fun zq => absurd zq (by decide)) (fun _ => ?_)
          refine lv_iload hx hb dX7_nextDueBehind_60 (lv_at hl 0 rfl) ?_
          refine n_if_eq hx hb 81 (by omega) dX7_nextDueBehind_62 (by decide) (fun zq => absurd zq (by decide)) (fun _ => ?_)
          refine lv_aload_n hx hb dX7_nextDueBehind_65 rfl (lv_at hl 4 rfl) ?_
          refine lv_ifnull hx hb dX7_nextDueBehind_66 ?_
          refine lv_aload hx hb dX7_nextDueBehind_69 (lv_at hl 1 rfl) ?_
          refine lv_aload_n hx hb dX7_nextDueBehind_71 rfl (lv_at hl 4 rfl) ?_
          have hg19 := hG.f3 (hpr 3 (by decide)) (show mm < nB σ by omega)
          have hw20 := hwf.2.2.2.2.2.2.2.2 _ (show mm < nB σ by omega)
          refine m_rVi (As := [.ref (g.1 3 mm)]) (rest := []) X Y hA hcx (c_X3_isDueBefore l D kc A e0 M (g.1 3 k) (g.1 3 mm) (g.1 1 (σ.1 18 k)) (g.1 1 (σ.1 18 mm)) (σ.1 19 k) (σ.1 19 mm) (σ.1 17 k) (σ.1 17 mm) k mm (cbl (σ.1 17 k) (σ.1 20 k)) (cbl (σ.1 17 mm) (σ.1 20 mm)) hg15 hg19 (by omega) (by omega) (by omega) (by omega)) (cwV 1 X.1.2.2.2.2 gX7_nextDueBehind_X3_isDueBefore rfl rfl rfl (by decide +kernel) ⟨Nat.le_of_ble_eq_true rfl, Nat.le_of_ble_eq_true rfl⟩) hg15 rfl rfl rfl hl.1 (Nat.le_of_ble_eq_true rfl) dX7_nextDueBehind_72 ⟨by decide, by decide⟩ (fun H locs Y => ?_)
          by_cases hbm : bef σ k mm
          · refine n_top (bN_t hbm) ?_
            refine n_if_eq hx hb 81 (by omega) dX7_nextDueBehind_75 (by decide) (fun zq => absurd zq (by decide)) (fun _ => ?_)
            refine lv_aload hx hb dX7_nextDueBehind_78 (lv_at hl 1 rfl) ?_
            refine lv_astore_n (lv' := [(2, .ref (g.1 3 k)), (5, .int (nI 1)), (4, .ref (g.1 3 k)), (0, .ref (g.1 7 0)), (1, .ref (g.1 3 x)), (3, .int (nI k))]) hx hb dX7_nextDueBehind_80 rfl hl (by decide) rfl (fun ls hl => ?_)
            refine lv_iinc (v := (nI (k + 1))) (lv' := [(3, .int (nI (k + 1))), (2, .ref (g.1 3 k)), (5, .int (nI 1)), (4, .ref (g.1 3 k)), (0, .ref (g.1 7 0)), (1, .ref (g.1 3 x))]) hx hb dX7_nextDueBehind_81 hl (k := 5) rfl (nI_add _ 1) (by decide) rfl (fun ls hl => ?_)
            refine lv_goto (tgt := 4) hx hb dX7_nextDueBehind_84 (by decide) ?_
            exact ih (k := k + 1) (nx := (some k)) (Y := Y) (hl := (lv_sub hl [4, 5, 1, 0] rfl)) (hfu := by omega) (hk := by omega) (hinv := ⟨(some mm), hinv, ⟨fun _ => rfl, fun zq => absurd ⟨hdu, hbx, Or.inr ⟨mm, rfl, hbm⟩⟩ zq⟩⟩) (hmk := fun mm zq => by cases zq; omega)
          · refine n_top (bN_f hbm) ?_
            refine n_if_eq hx hb 81 (by omega) dX7_nextDueBehind_75 (by decide) (fun _ => ?_) (fun zq => absurd zq (by decide))
            refine lv_iinc (v := (nI (k + 1))) (lv' := [(3, .int (nI (k + 1))), (5, .int (nI 1)), (4, .ref (g.1 3 k)), (0, .ref (g.1 7 0)), (1, .ref (g.1 3 x)), (2, .ref (g.1 3 mm))]) hx hb dX7_nextDueBehind_81 hl (k := 5) rfl (nI_add _ 1) (by decide) rfl (fun ls hl => ?_)
            refine lv_goto (tgt := 4) hx hb dX7_nextDueBehind_84 (by decide) ?_
            exact ih (k := k + 1) (nx := (some mm)) (Y := Y) (hl := (lv_sub hl [3, 4, 5, 0] rfl)) (hfu := by omega) (hk := by omega) (hinv := ⟨(some mm), hinv, ⟨fun zq => absurd zq (fun zq => (zq.2.2.elim (fun z9 => nomatch z9) (fun z9 => by obtain ⟨m9, z8, z7⟩ := z9; cases z8; exact hbm z7))), fun _ => rfl⟩⟩) (hmk := fun mm zq => by have := hmk mm zq; omega)
        · refine n_top (bN_f hdu) ?_
          refine n_if_eq hx hb 81 (by omega) dX7_nextDueBehind_57 (by decide) (fun _ => ?_) (fun zq => absurd zq (by decide))
          refine lv_iinc (v := (nI (k + 1))) (lv' := [(3, .int (nI (k + 1))), (5, .int (nI 1)), (4, .ref (g.1 3 k)), (0, .ref (g.1 7 0)), (1, .ref (g.1 3 x)), (2, .ref (g.1 3 mm))]) hx hb dX7_nextDueBehind_81 hl (k := 5) rfl (nI_add _ 1) (by decide) rfl (fun ls hl => ?_)
          refine lv_goto (tgt := 4) hx hb dX7_nextDueBehind_84 (by decide) ?_
          exact ih (k := k + 1) (nx := (some mm)) (Y := Y) (hl := (lv_sub hl [3, 4, 5, 0] rfl)) (hfu := by omega) (hk := by omega) (hinv := ⟨(some mm), hinv, ⟨fun zq => absurd zq (fun zq => hdu zq.1), fun _ => rfl⟩⟩) (hmk := fun mm zq => by have := hmk mm zq; omega)
      · refine n_top (bN_f hbx) ?_
        refine n_if_eq hx hb 49 (by omega) dX7_nextDueBehind_42 (by decide) (fun _ => ?_) (fun zq => absurd zq (by decide))
        refine n_iconst hx hb 0 dX7_nextDueBehind_49 (by decide) ?_
        refine lv_istore (lv' := [(5, .int (nI 0)), (4, .ref (g.1 3 k)), (0, .ref (g.1 7 0)), (1, .ref (g.1 3 x)), (2, .ref (g.1 3 mm)), (3, .int (nI k))]) hx hb dX7_nextDueBehind_50 hl (by decide) rfl (fun ls hl => ?_)
        refine lv_aload hx hb dX7_nextDueBehind_52 (lv_at hl 1 rfl) ?_
        refine m_rVi (As := []) (rest := []) X Y hA hcx (c_X3_hasDeadline l D kc A e0 M (g.1 3 k) (g.1 1 (σ.1 18 k)) (σ.1 19 k) (σ.1 17 k) (nI k) (cbl (σ.1 17 k) (σ.1 20 k)) hg15 (by omega)) (cwV 0 X.1.2.2.2.2 gX7_nextDueBehind_X3_hasDeadline rfl rfl rfl (by decide +kernel) ⟨Nat.le_of_ble_eq_true rfl, Nat.le_of_ble_eq_true rfl⟩) hg15 rfl rfl rfl hl.1 (Nat.le_of_ble_eq_true rfl) dX7_nextDueBehind_54 ⟨by decide, by decide⟩ (fun H locs Y => ?_)
        by_cases hdu : σ.1 17 k ≤ 1
        · refine n_top (bN_t hdu) ?_
          refine n_if_eq hx hb 81 (by omega) dX7_nextDueBehind_57 (by decide) (fun zq => absurd zq (by decide)) (fun _ => ?_)
          refine lv_iload hx hb dX7_nextDueBehind_60 (lv_at hl 0 rfl) ?_
          refine n_if_eq hx hb 81 (by omega) dX7_nextDueBehind_62 (by decide) (fun _ => ?_) (fun zq => absurd zq (by decide))
          refine lv_iinc (v := (nI (k + 1))) (lv' := [(3, .int (nI (k + 1))), (5, .int (nI 0)), (4, .ref (g.1 3 k)), (0, .ref (g.1 7 0)), (1, .ref (g.1 3 x)), (2, .ref (g.1 3 mm))]) hx hb dX7_nextDueBehind_81 hl (k := 5) rfl (nI_add _ 1) (by decide) rfl (fun ls hl => ?_)
          refine lv_goto (tgt := 4) hx hb dX7_nextDueBehind_84 (by decide) ?_
          exact ih (k := k + 1) (nx := (some mm)) (Y := Y) (hl := (lv_sub hl [3, 4, 5, 0] rfl)) (hfu := by omega) (hk := by omega) (hinv := ⟨(some mm), hinv, ⟨fun zq => absurd zq (fun zq => hbx zq.2.1), fun _ => rfl⟩⟩) (hmk := fun mm zq => by have := hmk mm zq; omega)
        · refine n_top (bN_f hdu) ?_
          refine n_if_eq hx hb 81 (by omega) dX7_nextDueBehind_57 (by decide) (fun _ => ?_) (fun zq => absurd zq (by decide))
          refine lv_iinc (v := (nI (k + 1))) (lv' := [(3, .int (nI (k + 1))), (5, .int (nI 0)), (4, .ref (g.1 3 k)), (0, .ref (g.1 7 0)), (1, .ref (g.1 3 x)), (2, .ref (g.1 3 mm))]) hx hb dX7_nextDueBehind_81 hl (k := 5) rfl (nI_add _ 1) (by decide) rfl (fun ls hl => ?_)
          refine lv_goto (tgt := 4) hx hb dX7_nextDueBehind_84 (by decide) ?_
          exact ih (k := k + 1) (nx := (some mm)) (Y := Y) (hl := (lv_sub hl [3, 4, 5, 0] rfl)) (hfu := by omega) (hk := by omega) (hinv := ⟨(some mm), hinv, ⟨fun zq => absurd zq (fun zq => hdu zq.1), fun _ => rfl⟩⟩) (hmk := fun mm zq => by have := hmk mm zq; omega)
