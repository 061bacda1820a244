def paK (σ : Sg) (k : Nat) : Sg := if k = 0 then σ else pasS σ k
theorem eil_eil (st u d : Nat) : eil (eil st u d) u (d + 1) = eil st u (d + 1) := by
  unfold eil
  by_cases h1 : st ≤ 1 ∧ u < d
  · rw [if_pos h1, if_neg (by omega), if_pos (by omega)]
  · rw [if_neg h1]
theorem pas_pas (σ : Sg) (k : Nat) : pasS (pasS σ k) 1 = pasS σ (k + 1) := by
  unfold pasS
  refine Prod.ext ?_ ?_
  · funext t i
    simp only
    by_cases h0 : t = 0 ∧ i = 0
    · simp [h0, tD]; omega
    · rw [if_neg h0, if_neg h0]
      by_cases h1 : t = 17 ∧ i < nB σ
      · obtain ⟨h1, h2⟩ := h1
        subst h1
        have e := eil_eil (σ.1 17 i) (σ.1 20 i) (tD σ + k)
        simp [nB, tD] at h2 e ⊢
        simp [h2]
        rw [← Nat.add_assoc]
        exact e
      · have h1' : ¬ (t = 17 ∧ i < σ.1 16 0) := h1
        simp [nB, h0, h1']
  · funext t i
    simp only
    by_cases h : t = 1 ∧ i < 4 <;> simp [h]
theorem paK_s (σ : Sg) (k : Nat) : pasS (paK σ k) 1 = paK σ (k + 1) := by
  unfold paK
  rw [if_neg (Nat.succ_ne_zero k)]
  split
  · rename_i h; subst h; rfl
  · exact pas_pas σ k
theorem WS_paK {n : Nat} {σ : Sg} (h : WS n σ) (hn : n + 1 ≤ 600) {k : Nat} (hk : k ≤ 100) : WS (n + 1) (paK σ k) := by
  unfold paK
  split
  · exact h.mono (by omega) hn
  · exact WS_pas h hn hk
theorem kwX7_pass_1 : Cond.fieldLink RX7 46 "CardPort" "day" "I" ∈ wsX7_pass := List.mem_of_getElem? (i := 1) rfl
theorem htX7_pass_wsX701 : ∀ w ∈ wsX70, w ∈ wsX7_pass := fun _ h => List.mem_cons_of_mem _ (List.mem_append_left _ (List.mem_append_left _ (List.mem_append_left _ (List.mem_append_left _ (List.mem_append_right _ h)))))
set_option maxHeartbeats 4000000 in
set_option maxRecDepth 100000 in
theorem c_X7_pass (l : Launch) (hlt : l.stackTraces = false) (D : va_G) (kc : Nat → ClassId) (A : Nat → Prop) (e0 : Nat × Nat) (M : Mp) {pr : Nat → Prop} {σ τ : Sg} {th : Int32} {o : Int64} {g : Gh} {nn : Nat} (hG : G pr kc e0 σ τ th o g M) (hwf : WS nn σ) (hpr : ∀ t, t ≤ 10 → pr t) (a : Int32) (hnn : nn + 1 ≤ 600) : vx_Met l yX7_pass wsX7_pass ({ frames := 8, cells := 12, slots := 320, locals := 300 }) (mPre D kc A e0 M [.ref (g.1 7 0), .int a]) (va_Qi (PC pr kc e0 τ th o g (sp_pass σ a)) (mB D A) A) (mXC D A (xP M [2] (sp_pass σ a).1)) 12 320 A := by
  refine vx_ofW (cc := cX7_pass) (maxL := 3) (ret := (some .int)) (by decide) rfl ?_
  intro p e s m args below meth c s₁ B hml htab hv
  obtain ⟨rfl, hw, hK, hA, hcx⟩ := hv
  have X : mX p s m _ c cX7_pass 3 RX7 wsX7_pass D kc := ⟨⟨B.exec, B.bytes, hml, findClass_of_methodNamed B.named, atoms_spec (ws := wsX7_pass) B.pre⟩, hK⟩
  have hx := B.exec
  have hb := B.bytes
  have hr := B.returns
  have hlocks := B.notSynchronized
  have Y : mY D A M s s.heap [] := ⟨hw, va_S.rf⟩
  have hl := lv_entry ([.ref (g.1 7 0), .int a]) (n := 3) (Nat.le_of_ble_eq_true rfl)
  rw [lg_entry_eq]
  generalize (lg_sl ([.ref (g.1 7 0), .int a]) ++ List.replicate (3 - (lg_sl ([.ref (g.1 7 0), .int a])).length) Slot.unset).toArray = ls at hl ⊢
  have hl : lv_has ls 3 [(0, .ref (g.1 7 0)), (1, .int a)] := hl
  have hwn := hwf.2.2.2.1
  have hwd := hwf.1
  refine lv_iload_n hx hb dX7_pass_0 rfl (lv_at hl 1 rfl) ?_
  refine n_iconst hx hb 1 dX7_pass_1 (by decide) ?_
  refine n_bipush hx hb 100 dX7_pass_2 (by decide) ?_
  cases hra : rI a 1 100 with
  | false =>
    refine m_xSv (As := [.int a, .int (nI 1), .int (nI 100)]) (rest := []) X Y hA hcx (c_rr_bad l hlt D kc A e0 M a 1 100 (rI_f hra (by decide) (by decide))) (va_cwS 3 X.1.2.2.2.2 gX7_pass_X7_requireRange rfl rfl rfl (by decide +kernel) ⟨Nat.le_of_ble_eq_true rfl, Nat.le_of_ble_eq_true rfl⟩) rfl rfl hl.1 (Nat.le_of_ble_eq_true rfl) dX7_pass_4 ⟨by decide, by decide⟩ htab hlocks (by decide) (by decide) (fun u hu => xP_i (k := 0) (z := 2) (by simp only [sp_pass, hra, Bool.and_self, Bool.and_true, Bool.and_false, Bool.false_and, Bool.true_and, Bool.false_eq_true, reduceIte]) rfl hu) (fun M1 H locs p2 Y => ?_)
    exact p2.elim
  | true =>
    obtain ⟨ja, haa, hba, hla, rfl⟩ := rI_t hra
    refine m_rxSv (As := [.int (nI ja), .int (nI 1), .int (nI 100)]) (rest := []) X Y hA hcx (c_rr_ok l hlt D kc A e0 M ja 1 100 haa hba (by decide)) (va_cwS 3 X.1.2.2.2.2 gX7_pass_X7_requireRange rfl rfl rfl (by decide +kernel) ⟨Nat.le_of_ble_eq_true rfl, Nat.le_of_ble_eq_true rfl⟩) rfl rfl hl.1 (Nat.le_of_ble_eq_true rfl) dX7_pass_4 ⟨by decide, by decide⟩ htab hlocks (by decide) (by decide) (fun u h => h.elim) (fun H locs Y => ?_)
    refine n_iconst hx hb 0 dX7_pass_7 (by decide) ?_
    refine lv_istore_n (lv' := [(2, .int (nI 0)), (0, .ref (g.1 7 0)), (1, .int (nI ja))]) hx hb dX7_pass_8 rfl hl (by decide) rfl (fun ls hl => ?_)
    obtain ⟨k, hk0⟩ : ∃ k : Nat, k = 0 := ⟨_, rfl⟩
    have hG1 : G pr kc e0 (paK σ k) τ th o g M := by rw [hk0]; exact hG
    replace hl : lv_has ls 3 [(2, .int (nI k)), (0, .ref (g.1 7 0)), (1, .int (nI ja))] := by
      rw [hk0]; exact hl
    replace hl : lv_has ls 3 [(0, .ref (g.1 7 0)), (1, .int (nI ja)), (2, .int (nI k))] := lv_sub hl [1, 2, 0] rfl
    have hk : k ≤ ja := by omega
    clear hk0
    obtain ⟨M1, hM1⟩ : ∃ zz : Mp, zz = M := ⟨_, rfl⟩
    rw [← hM1] at Y hG1
    clear hM1
    obtain ⟨fu, hfu⟩ : ∃ fu : Nat, fu = ja - k := ⟨_, rfl⟩
    induction fu generalizing k M1 H locs ls with
    | zero =>
      obtain rfl : k = ja := by omega
      have hq7 := hG1.f7 (hpr 7 (by decide))
      refine lv_iload_n hx hb dX7_pass_9 rfl (lv_at hl 2 rfl) ?_
      refine lv_iload_n hx hb dX7_pass_10 rfl (lv_at hl 1 rfl) ?_
      refine n_icmp_ge hx hb 24 (by omega) (by omega) dX7_pass_11 (by decide) (fun _ => ?_) (fun zq => absurd zq (by omega))
      refine lv_aload_n hx hb dX7_pass_24 rfl (lv_at hl 0 rfl) ?_
      refine m_get (ref := "CardPort") (C := RX7) (T := TX7) (N := 8) (ci := 8) X Y htX7_pass_wsX701 hq7 rfl 7 (by decide) kwX7_pass_1 rfl (v := .int (nI (tD (paK σ k)))) rfl dX7_pass_25 ?_
      refine vx_ret (m_iret X Y hr hlocks (by decide) (by decide) ?_ dX7_pass_28)
      have hkk : paK σ k = pasS σ k := if_neg (by omega)
      rw [hkk] at hG1 ⊢
      exact PC_i (by simp only [sp_pass, hra, ix_nI hla, Bool.and_self, Bool.and_true, Bool.and_false, Bool.false_and, Bool.true_and, Bool.false_eq_true, reduceIte]; rfl) (KG.rf g) hG1
    | succ fu ih =>
      have hq7 := hG1.f7 (hpr 7 (by decide))
      refine lv_iload_n hx hb dX7_pass_9 rfl (lv_at hl 2 rfl) ?_
      refine lv_iload_n hx hb dX7_pass_10 rfl (lv_at hl 1 rfl) ?_
      refine n_icmp_ge hx hb 24 (by omega) (by omega) dX7_pass_11 (by decide) (fun zq => absurd zq (by omega)) (fun _ => ?_)
      refine lv_aload_n hx hb dX7_pass_14 rfl (lv_at hl 0 rfl) ?_
      refine m_Vv (As := []) (rest := []) X Y hA hcx (c_bnd l D kc A e0 M1 hG1 (WS_paK hwf hnn (by omega)) hpr) (cwV 0 X.1.2.2.2.2 gX7_pass_X7_beginNextDay rfl rfl rfl (by decide +kernel) ⟨Nat.le_of_ble_eq_true rfl, Nat.le_of_ble_eq_true rfl⟩) hq7 rfl rfl rfl hl.1 (Nat.le_of_ble_eq_true rfl) dX7_pass_15 ⟨by decide, by decide⟩ (fun M3 H locs p4 Y => ?_)
      refine lv_iinc (v := (nI (k + 1))) (lv' := [(2, .int (nI (k + 1))), (0, .ref (g.1 7 0)), (1, .int (nI ja))]) hx hb dX7_pass_18 hl (k := 2) rfl (nI_add _ 1) (by decide) rfl (fun ls hl => ?_)
      refine lv_goto (tgt := 9) hx hb dX7_pass_21 (by decide) ?_
      rw [paK_s] at p4
      exact ih (k := k + 1) (M1 := M3) (Y := Y) (hl := (lv_sub hl [1, 2, 0] rfl)) (hfu := by omega) (hk := by omega) (hG1 := p4)
