theorem t1_lI {pr : Nat → Prop} {kc : Nat → ClassId} {e0 : Nat × Nat} {σ τ : Sg} {th : Int32} {o : Int64} {g : Gh} {M : Mp} {nn : Nat} (hG : G pr kc e0 σ τ th o g M) (hwf : WS nn σ) (h0 : pr 0) {k d : Nat} (hk : k < nC σ) (hd : d < 4) : (shN (g.1 0 (σ.1 6 (σ.1 12 k) % 4)) (g.1 0 (σ.1 5 (σ.1 12 k) / 3)) (g.1 0 d) (nI (σ.1 13 k - σ.1 14 k) - nI (σ.1 15 k))).toInt64 = lI (t1 σ d k) := by
  have h1 := hwf.2.2.2.2.2.2.1 k hk
  have h5 := hwf.2.2.2.2.1 _ h1.1
  have hr : σ.1 15 k ≤ gb σ k := by
    have : ∀ n, σ.1 15 k ≤ gbS σ k n := fun n => by
      induction n with
      | zero => exact Nat.le_refl _
      | succ n ih => rw [gbS_s]; omega
    exact this _
  have e : ((σ.1 13 k - σ.1 14 k : Nat) : Int) - σ.1 15 k = (σ.1 13 k : Int) - σ.1 14 k - σ.1 15 k := by omega
  exact sh_lI hG h0 (Nat.mod_lt _ (by decide)) (div3 h5.1) hd (by rw [subT (by omega) (by omega), e]) (by omega) (by omega)
theorem t2_lI {pr : Nat → Prop} {kc : Nat → ClassId} {e0 : Nat × Nat} {σ τ : Sg} {th : Int32} {o : Int64} {g : Gh} {M : Mp} {nn : Nat} (hG : G pr kc e0 σ τ th o g M) (hwf : WS nn σ) (h0 : pr 0) {j d : Nat} (hj : j < nB σ) (hd : d < 4) : (shN (g.1 0 (σ.1 6 (σ.1 12 (σ.1 18 j)) % 4)) (g.1 0 (σ.1 5 (σ.1 12 (σ.1 18 j)) / 3)) (g.1 0 d) (nI (σ.1 19 j))).toInt64 = lI (shz σ (σ.1 18 j) d (σ.1 19 j)) := by
  have h9 := hwf.2.2.2.2.2.2.2.2 j hj
  have h1 := hwf.2.2.2.2.2.2.1 _ h9.2.1
  have h5 := hwf.2.2.2.2.1 _ h1.1
  exact sh_lI hG h0 (Nat.mod_lt _ (by decide)) (div3 h5.1) hd (nI_tI (by omega)) (by omega) (by omega)
theorem kwX7_net_2 : Cond.fieldLink RX7 232 "CardPort$Bank" "netToday" "J" ∈ wsX7_net := List.mem_of_getElem? (i := 2) rfl
theorem htX7_net_wsX001 : ∀ w ∈ wsX00, w ∈ wsX7_net := fun _ h => List.mem_cons_of_mem _ (List.mem_append_left _ (List.mem_append_left _ (List.mem_append_right _ h)))
theorem kwX7_net_1 : Cond.fieldLink RX7 228 "CardPort$Bank" "netInAll" "J" ∈ wsX7_net := List.mem_of_getElem? (i := 1) rfl
set_option maxHeartbeats 4000000 in
set_option maxRecDepth 100000 in
theorem c_X7_net (l : Launch) (hlt : l.stackTraces = false) (D : va_G) (kc : Nat → ClassId) (A : Nat → Prop) (e0 : Nat × Nat) (M : Mp) {pr : Nat → Prop} {σ τ : Sg} {th : Int32} {o : Int64} {g : Gh} {nn : Nat} (hG : G pr kc e0 σ τ th o g M) (hwf : WS nn σ) (hpr : ∀ t, t ≤ 10 → pr t) (a : Int32) (b : Bool) : vx_Met l yX7_net wsX7_net ({ frames := 8, cells := 12, slots := 320, locals := 300 }) (mPre D kc A e0 M [.ref (g.1 7 0), .int a, .int (nI b.toNat)]) (va_Ql (fun r M1 => (sp_net σ a b).1 = 0 ∧ r = (sp_net σ a b).2 ∧ M1 = M) (mB D A) A) (mXC D A (xP M [1] (sp_net σ a b).1)) 12 320 A := by
  refine vx_ofW (cc := cX7_net) (maxL := 4) (ret := (some .long)) (by decide) rfl ?_
  intro p e s m args below meth c s₁ B hml htab hv
  obtain ⟨rfl, hw, hK, hA, hcx⟩ := hv
  have X : mX p s m _ c cX7_net 4 RX7 wsX7_net D kc := ⟨⟨B.exec, B.bytes, hml, findClass_of_methodNamed B.named, atoms_spec (ws := wsX7_net) B.pre⟩, hK⟩
  have hx := B.exec
  have hb := B.bytes
  have hr := B.returns
  have hlocks := B.notSynchronized
  have Y : mY D A M s s.heap [] := ⟨hw, va_S.rf⟩
  have hl := lv_entry ([.ref (g.1 7 0), .int a, .int (nI b.toNat)]) (n := 4) (Nat.le_of_ble_eq_true rfl)
  rw [lg_entry_eq]
  generalize (lg_sl ([.ref (g.1 7 0), .int a, .int (nI b.toNat)]) ++ List.replicate (4 - (lg_sl ([.ref (g.1 7 0), .int a, .int (nI b.toNat)])).length) Slot.unset).toArray = ls at hl ⊢
  have hl : lv_has ls 4 [(0, .ref (g.1 7 0)), (1, .int a), (2, .int (nI b.toNat))] := hl
  have hwn := hwf.2.2.2.1
  have hwd := hwf.1
  have hb9 := Bool.toNat_le b
  refine lv_aload_n hx hb dX7_net_0 rfl (lv_at hl 0 rfl) ?_
  refine lv_iload_n hx hb dX7_net_1 rfl (lv_at hl 1 rfl) ?_
  cases hva : vI a 4 with
  | false =>
    have hg1 := hG.f7 (hpr 7 (by decide))
    refine m_xVq (As := [.int a]) (rest := []) X Y hA hcx (c_bankAt_bad l hlt D kc A e0 M (g.1 7 0) a (vI_f hva (by decide))) (cwV 1 X.1.2.2.2.2 gX7_net_X7_bankAt rfl rfl rfl (by decide +kernel) ⟨Nat.le_of_ble_eq_true rfl, Nat.le_of_ble_eq_true rfl⟩) hg1 rfl rfl rfl hl.1 (Nat.le_of_ble_eq_true rfl) dX7_net_2 ⟨by decide, by decide⟩ htab hlocks (by decide) (by decide) (fun u hu => xP_i (k := 0) (z := 1) (by simp only [sp_net, hva, Bool.and_self, Bool.and_true, Bool.and_false, Bool.false_and, Bool.true_and, Bool.false_eq_true, reduceIte]) rfl hu) (fun r2 M3 H locs p4 Y => ?_)
    exact p4.elim
  | true =>
    obtain ⟨ja, hja, hla, rfl⟩ := vI_t hva
    have hia := ix_nI hla
    have hg5 := hG.f7 (hpr 7 (by decide))
    refine m_rxVq (As := [.int (nI ja)]) (rest := []) X Y hA hcx (c_bankAt l hlt D kc A e0 M hG hwf hpr ja hja) (cwV 1 X.1.2.2.2.2 gX7_net_X7_bankAt rfl rfl rfl (by decide +kernel) ⟨Nat.le_of_ble_eq_true rfl, Nat.le_of_ble_eq_true rfl⟩) hg5 rfl rfl rfl hl.1 (Nat.le_of_ble_eq_true rfl) dX7_net_2 ⟨by decide, by decide⟩ htab hlocks (by decide) (by decide) (fun u h => h.elim) (fun H locs Y => ?_)
    refine lv_astore_n (lv' := [(3, .ref (g.1 0 ja)), (0, .ref (g.1 7 0)), (1, .int (nI ja)), (2, .int (nI b.toNat))]) hx hb dX7_net_5 rfl hl (by decide) rfl (fun ls hl => ?_)
    refine lv_iload_n hx hb dX7_net_6 rfl (lv_at hl 3 rfl) ?_
    refine n_if_eq hx hb 17 (by omega) dX7_net_7 (by decide) (fun c7 => ?_) (fun c7 => ?_)
    · refine lv_aload_n hx hb dX7_net_17 rfl (lv_at hl 0 rfl) ?_
      have hg6 := hG.f0 (hpr 0 (by decide)) hja
      refine m_get (ref := "CardPort$Bank") (C := RX0) (T := TX0) (N := 2) (ci := 1) X Y htX7_net_wsX001 hg6 rfl 1 (by decide) kwX7_net_2 rfl (v := .long (lI (σ.2 1 ja))) rfl dX7_net_18 ?_
      refine vx_ret (m_lret X Y hr hlocks (by decide) (by decide) ?_ dX7_net_21)
      have hb8 : b = false := by cases b; rfl; exact absurd c7 (by decide)
      have e9 : sp_net σ (nI ja) b = (0, lI (σ.2 1 ja)) := by simp only [sp_net, hva, ix_nI hla, Bool.and_self, Bool.and_true, Bool.and_false, Bool.false_and, Bool.true_and, Bool.false_eq_true, reduceIte]; rw [hb8]; rfl
      exact ⟨by rw [e9], by rw [e9], rfl⟩
    · refine lv_aload_n hx hb dX7_net_10 rfl (lv_at hl 0 rfl) ?_
      have hg7 := hG.f0 (hpr 0 (by decide)) hja
      refine m_get (ref := "CardPort$Bank") (C := RX0) (T := TX0) (N := 2) (ci := 1) X Y htX7_net_wsX001 hg7 rfl 0 (by decide) kwX7_net_1 rfl (v := .long (lI (σ.2 0 ja))) rfl dX7_net_11 ?_
      refine lv_goto (tgt := 21) hx hb dX7_net_14 (by decide) ?_
      refine vx_ret (m_lret X Y hr hlocks (by decide) (by decide) ?_ dX7_net_21)
      have hb8 : b = true := by cases b; exact absurd c7 (by decide); rfl
      have e9 : sp_net σ (nI ja) b = (0, lI (σ.2 0 ja)) := by simp only [sp_net, hva, ix_nI hla, Bool.and_self, Bool.and_true, Bool.and_false, Bool.false_and, Bool.true_and, Bool.false_eq_true, reduceIte]; rw [hb8]; rfl
      exact ⟨by rw [e9], by rw [e9], rfl⟩
theorem kwX7_netAnew_1 : Cond.fieldLink RX7 40 "CardPort" "captures" "Ljava/util/List;" ∈ wsX7_netAnew := List.mem_of_getElem? (i := 1) rfl
theorem htX7_netAnew_wsX701 : ∀ w ∈ wsX70, w ∈ wsX7_netAnew := fun _ h => List.mem_cons_of_mem _ (List.mem_append_left _ (List.mem_append_left _ (List.mem_append_left _ (List.mem_append_left _ (List.mem_append_left _ (List.mem_append_left _ (List.mem_append_left _ (List.mem_append_right _ h))))))))
theorem kwX7_netAnew_6 : Cond.fieldLink RX7 43 "CardPort" "chargebacks" "Ljava/util/List;" ∈ wsX7_netAnew := List.mem_of_getElem? (i := 6) rfl
theorem kwX7_netAnew_7 : Cond.classLink RX7 174 "CardPort$Chargeback" ∈ wsX7_netAnew := List.mem_of_getElem? (i := 7) rfl
theorem kwX7_netAnew_8 : Cond.fieldLink RX7 194 "CardPort$Chargeback" "capture" "LCardPort$Capture;" ∈ wsX7_netAnew := List.mem_of_getElem? (i := 8) rfl
theorem htX7_netAnew_wsX303 : ∀ w ∈ wsX30, w ∈ wsX7_netAnew := fun _ h => List.mem_cons_of_mem _ (List.mem_append_left _ (List.mem_append_left _ (List.mem_append_left _ (List.mem_append_left _ (List.mem_append_left _ (List.mem_append_right _ h))))))
theorem kwX7_netAnew_9 : Cond.fieldLink RX7 198 "CardPort$Chargeback" "amount" "I" ∈ wsX7_netAnew := List.mem_of_getElem? (i := 9) rfl
theorem kwX7_netAnew_2 : Cond.classLink RX7 129 "CardPort$Capture" ∈ wsX7_netAnew := List.mem_of_getElem? (i := 2) rfl
theorem kwX7_netAnew_3 : Cond.fieldLink RX7 148 "CardPort$Capture" "amount" "I" ∈ wsX7_netAnew := List.mem_of_getElem? (i := 3) rfl
theorem htX7_netAnew_wsX102 : ∀ w ∈ wsX10, w ∈ wsX7_netAnew := fun _ h => List.mem_cons_of_mem _ (List.mem_append_left _ (List.mem_append_left _ (List.mem_append_left _ (List.mem_append_left _ (List.mem_append_left _ (List.mem_append_left _ (List.mem_append_right _ h)))))))
theorem kwX7_netAnew_4 : Cond.fieldLink RX7 151 "CardPort$Capture" "fee" "I" ∈ wsX7_netAnew := List.mem_of_getElem? (i := 4) rfl
theorem kwX7_netAnew_5 : Cond.fieldLink RX7 171 "CardPort$Capture" "refunded" "I" ∈ wsX7_netAnew := List.mem_of_getElem? (i := 5) rfl
set_option maxHeartbeats 4000000 in
set_option maxRecDepth 100000 in
theorem c_X7_netAnew (l : Launch) (hlt : l.stackTraces = false) (D : va_G) (kc : Nat → ClassId) (A : Nat → Prop) (e0 : Nat × Nat) (M : Mp) {pr : Nat → Prop} {σ τ : Sg} {th : Int32} {o : Int64} {g : Gh} {nn : Nat} (hG : G pr kc e0 σ τ th o g M) (hwf : WS nn σ) (hpr : ∀ t, t ≤ 10 → pr t) (a : Int32) (hnet : ∀ b, b < 4 → σ.2 0 b = n1S σ b (nC σ) - n2S σ b (nB σ)) : vx_Met l yX7_netAnew wsX7_netAnew ({ frames := 8, cells := 12, slots := 320, locals := 300 }) (mPre D kc A e0 M [.ref (g.1 7 0), .int a]) (va_Ql (fun r M1 => (sp_netAnew σ a).1 = 0 ∧ r = (sp_netAnew σ a).2 ∧ M1 = M) (mB D A) A) (mXC D A (xP M [1] (sp_netAnew σ a).1)) 12 320 A := by
  refine vx_ofW (cc := cX7_netAnew) (maxL := 7) (ret := (some .long)) (by decide) rfl ?_
  intro p e s m args below meth c s₁ B hml htab hv
  obtain ⟨rfl, hw, hK, hA, hcx⟩ := hv
  have X : mX p s m _ c cX7_netAnew 7 RX7 wsX7_netAnew D kc := ⟨⟨B.exec, B.bytes, hml, findClass_of_methodNamed B.named, atoms_spec (ws := wsX7_netAnew) B.pre⟩, hK⟩
  have hx := B.exec
  have hb := B.bytes
  have hr := B.returns
  have hlocks := B.notSynchronized
  have Y : mY D A M s s.heap [] := ⟨hw, va_S.rf⟩
  have hl := lv_entry ([.ref (g.1 7 0), .int a]) (n := 7) (Nat.le_of_ble_eq_true rfl)
  rw [lg_entry_eq]
  generalize (lg_sl ([.ref (g.1 7 0), .int a]) ++ List.replicate (7 - (lg_sl ([.ref (g.1 7 0), .int a])).length) Slot.unset).toArray = ls at hl ⊢
  have hl : lv_has ls 7 [(0, .ref (g.1 7 0)), (1, .int a)] := hl
  have hwn := hwf.2.2.2.1
  have hwd := hwf.1
  refine lv_aload_n hx hb dX7_netAnew_0 rfl (lv_at hl 0 rfl) ?_
  refine lv_iload_n hx hb dX7_netAnew_1 rfl (lv_at hl 1 rfl) ?_
  cases hva : vI a 4 with
  | false =>
    have hg1 := hG.f7 (hpr 7 (by decide))
    refine m_xVq (As := [.int a]) (rest := []) X Y hA hcx (c_bankAt_bad l hlt D kc A e0 M (g.1 7 0) a (vI_f hva (by decide))) (cwV 1 X.1.2.2.2.2 gX7_netAnew_X7_bankAt rfl rfl rfl (by decide +kernel) ⟨Nat.le_of_ble_eq_true rfl, Nat.le_of_ble_eq_true rfl⟩) hg1 rfl rfl rfl hl.1 (Nat.le_of_ble_eq_true rfl) dX7_netAnew_2 ⟨by decide, by decide⟩ htab hlocks (by decide) (by decide) (fun u hu => xP_i (k := 0) (z := 1) (by simp only [sp_netAnew, hva, Bool.and_self, Bool.and_true, Bool.and_false, Bool.false_and, Bool.true_and, Bool.false_eq_true, reduceIte]) rfl hu) (fun r2 M3 H locs p4 Y => ?_)
    exact p4.elim
  | true =>
    obtain ⟨ja, hja, hla, rfl⟩ := vI_t hva
    have hia := ix_nI hla
    have hg5 := hG.f7 (hpr 7 (by decide))
    refine m_rxVq (As := [.int (nI ja)]) (rest := []) X Y hA hcx (c_bankAt l hlt D kc A e0 M hG hwf hpr ja hja) (cwV 1 X.1.2.2.2.2 gX7_netAnew_X7_bankAt rfl rfl rfl (by decide +kernel) ⟨Nat.le_of_ble_eq_true rfl, Nat.le_of_ble_eq_true rfl⟩) hg5 rfl rfl rfl hl.1 (Nat.le_of_ble_eq_true rfl) dX7_netAnew_2 ⟨by decide, by decide⟩ htab hlocks (by decide) (by decide) (fun u h => h.elim) (fun H locs Y => ?_)
    refine lv_astore_n (lv' := [(2, .ref (g.1 0 ja)), (0, .ref (g.1 7 0)), (1, .int (nI ja))]) hx hb dX7_netAnew_5 rfl hl (by decide) rfl (fun ls hl => ?_)
    refine lv_lconst (v := 0) hx hb dX7_netAnew_6 (by decide) ?_
    refine lv_lstore_n (lv' := [(3, .long 0), (2, .ref (g.1 0 ja)), (0, .ref (g.1 7 0)), (1, .int (nI ja))]) hx hb dX7_netAnew_7 rfl hl (by decide) rfl (fun ls hl => ?_)
    refine n_iconst hx hb 0 dX7_netAnew_8 (by decide) ?_
    refine lv_istore (lv' := [(5, .int (nI 0)), (3, .long 0), (2, .ref (g.1 0 ja)), (0, .ref (g.1 7 0)), (1, .int (nI ja))]) hx hb dX7_netAnew_9 hl (by decide) rfl (fun ls hl => ?_)
    obtain ⟨k, hk0⟩ : ∃ k : Nat, k = 0 := ⟨_, rfl⟩
    replace hl : lv_has ls 7 [(5, .int (nI k)), (3, .long (lI (n1S σ ja k))), (2, .ref (g.1 0 ja)), (0, .ref (g.1 7 0)), (1, .int (nI ja))] := by
      rw [hk0]; exact hl
    replace hl : lv_has ls 7 [(0, .ref (g.1 7 0)), (1, .int (nI ja)), (2, .ref (g.1 0 ja)), (3, .long (lI (n1S σ ja k))), (5, .int (nI k))] := lv_sub hl [3, 4, 2, 1, 0] rfl
    have hk : k ≤ nC σ := by omega
    clear hk0
    obtain ⟨fu, hfu⟩ : ∃ fu : Nat, fu = nC σ - k := ⟨_, rfl⟩
    induction fu generalizing k H locs ls with
    | zero =>
      obtain rfl : k = nC σ := by omega
      refine lv_iload hx hb dX7_netAnew_11 (lv_at hl 4 rfl) ?_
      refine lv_aload_n hx hb dX7_netAnew_13 rfl (lv_at hl 0 rfl) ?_
      refine m_get (ref := "CardPort") (C := RX7) (T := TX7) (N := 8) (ci := 8) X Y htX7_netAnew_wsX701 hg5 rfl 5 (by decide) kwX7_netAnew_1 rfl (v := .ref (g.1 9 1)) rfl dX7_netAnew_14 ?_
      have hg6 := hG.f9_1 (hpr 9 (by decide))
      refine m_rFi (As := []) (rest := [.int (nI (nC σ))]) X Y hA hcx (c_size l D kc A e0 M (g.1 9 1) (lar e0 σ g 1) (nC σ) (g.2.2.2 1) hg6) (va_cwF 0 X.1.2.2.2.2 gX7_netAnew_Jx4a65c_size_8abf5_f94Jx4a65c rfl rfl rfl hcx.1.2.2.2.2.2.2.1 (by decide +kernel) ⟨Nat.le_of_ble_eq_true rfl, Nat.le_of_ble_eq_true rfl⟩) hg6 rfl rfl rfl hl.1 (Nat.le_of_ble_eq_true rfl) dX7_netAnew_17 ⟨by decide, by decide⟩ (fun H locs Y => ?_)
      refine n_icmp_ge hx hb 74 (by omega) (by omega) dX7_netAnew_22 (by decide) (fun _ => ?_) (fun zq => absurd zq (by omega))
      refine n_iconst hx hb 0 dX7_netAnew_74 (by decide) ?_
      refine lv_istore (lv' := [(5, .int (nI 0)), (0, .ref (g.1 7 0)), (1, .int (nI ja)), (2, .ref (g.1 0 ja)), (3, .long (lI (n1S σ ja (nC σ))))]) hx hb dX7_netAnew_75 hl (by decide) rfl (fun ls hl => ?_)
      have hz9 : lI (n1S σ ja (nC σ) - n2S σ ja 0) = lI (n1S σ ja (nC σ)) := congrArg lI (Int.sub_zero _)
      replace hl : lv_has ls 7 [(5, .int (nI 0)), (0, .ref (g.1 7 0)), (1, .int (nI ja)), (2, .ref (g.1 0 ja)), (3, .long (lI (n1S σ ja (nC σ) - n2S σ ja 0)))] := by rw [hz9]; exact hl
      clear hfu
      obtain ⟨k, hk0⟩ : ∃ k : Nat, k = 0 := ⟨_, rfl⟩
      replace hl : lv_has ls 7 [(5, .int (nI k)), (0, .ref (g.1 7 0)), (1, .int (nI ja)), (2, .ref (g.1 0 ja)), (3, .long (lI (n1S σ ja (nC σ) - n2S σ ja k)))] := by
        rw [hk0]; exact hl
      replace hl : lv_has ls 7 [(0, .ref (g.1 7 0)), (1, .int (nI ja)), (2, .ref (g.1 0 ja)), (3, .long (lI (n1S σ ja (nC σ) - n2S σ ja k))), (5, .int (nI k))] := lv_sub hl [1, 2, 3, 4, 0] rfl
      have hk : k ≤ nB σ := by omega
      clear hk0
      obtain ⟨fu, hfu⟩ : ∃ fu : Nat, fu = nB σ - k := ⟨_, rfl⟩
      induction fu generalizing k H locs ls with
      | zero =>
        obtain rfl : k = nB σ := by omega
        refine lv_iload hx hb dX7_netAnew_77 (lv_at hl 4 rfl) ?_
        refine lv_aload_n hx hb dX7_netAnew_79 rfl (lv_at hl 0 rfl) ?_
        refine m_get (ref := "CardPort") (C := RX7) (T := TX7) (N := 8) (ci := 8) X Y htX7_netAnew_wsX701 hg5 rfl 6 (by decide) kwX7_netAnew_6 rfl (v := .ref (g.1 9 2)) rfl dX7_netAnew_80 ?_
        have hg7 := hG.f9_2 (hpr 9 (by decide))
        refine m_rFi (As := []) (rest := [.int (nI (nB σ))]) X Y hA hcx (c_size l D kc A e0 M (g.1 9 2) (lar e0 σ g 2) (nB σ) (g.2.2.2 2) hg7) (va_cwF 0 X.1.2.2.2.2 gX7_netAnew_Jx4a65c_size_8abf5_f94Jx4a65c rfl rfl rfl hcx.1.2.2.2.2.2.2.1 (by decide +kernel) ⟨Nat.le_of_ble_eq_true rfl, Nat.le_of_ble_eq_true rfl⟩) hg7 rfl rfl rfl hl.1 (Nat.le_of_ble_eq_true rfl) dX7_netAnew_83 ⟨by decide, by decide⟩ (fun H locs Y => ?_)
        refine n_icmp_ge hx hb 139 (by omega) (by omega) dX7_netAnew_88 (by decide) (fun _ => ?_) (fun zq => absurd zq (by omega))
        refine lv_lload_n hx hb dX7_netAnew_139 rfl (lv_at hl 3 rfl) ?_
        refine vx_ret (m_lret X Y hr hlocks (by decide) (by decide) ?_ dX7_netAnew_140)
        have e9 : sp_netAnew σ (nI ja) = (0, lI (n1S σ ja (nC σ) - n2S σ ja (nB σ))) := by simp only [sp_netAnew, hva, ix_nI hla, Bool.and_self, Bool.and_true, Bool.and_false, Bool.false_and, Bool.true_and, Bool.false_eq_true, reduceIte]; rw [hnet ja hja]
        exact ⟨by rw [e9], by rw [e9], rfl⟩
      | succ fu ih =>
        refine lv_iload hx hb dX7_netAnew_77 (lv_at hl 4 rfl) ?_
        refine lv_aload_n hx hb dX7_netAnew_79 rfl (lv_at hl 0 rfl) ?_
        refine m_get (ref := "CardPort") (C := RX7) (T := TX7) (N := 8) (ci := 8) X Y htX7_netAnew_wsX701 hg5 rfl 6 (by decide) kwX7_netAnew_6 rfl (v := .ref (g.1 9 2)) rfl dX7_netAnew_80 ?_
        have hg8 := hG.f9_2 (hpr 9 (by decide))
        refine m_rFi (As := []) (rest := [.int (nI k)]) X Y hA hcx (c_size l D kc A e0 M (g.1 9 2) (lar e0 σ g 2) (nB σ) (g.2.2.2 2) hg8) (va_cwF 0 X.1.2.2.2.2 gX7_netAnew_Jx4a65c_size_8abf5_f94Jx4a65c rfl rfl rfl hcx.1.2.2.2.2.2.2.1 (by decide +kernel) ⟨Nat.le_of_ble_eq_true rfl, Nat.le_of_ble_eq_true rfl⟩) hg8 rfl rfl rfl hl.1 (Nat.le_of_ble_eq_true rfl) dX7_netAnew_83 ⟨by decide, by decide⟩ (fun H locs Y => ?_)
        refine n_icmp_ge hx hb 139 (by omega) (by omega) dX7_netAnew_88 (by decide) (fun zq => absurd zq (by omega)) (fun _ => ?_)
        refine lv_aload_n hx hb dX7_netAnew_91 rfl (lv_at hl 0 rfl) ?_
        refine m_get (ref := "CardPort") (C := RX7) (T := TX7) (N := 8) (ci := 8) X Y htX7_netAnew_wsX701 hg5 rfl 6 (by decide) kwX7_netAnew_6 rfl (v := .ref (g.1 9 2)) rfl dX7_netAnew_92 ?_
        refine lv_iload hx hb dX7_netAnew_95 (lv_at hl 4 rfl) ?_
        obtain ⟨-, el9b, el9c, el9d, el9e⟩ := hG.el2 (hpr 10 (by decide)) (show k < nB σ by omega)
        refine m_rFq (As := [.int (nI k)]) (rest := []) X Y hA hcx (c_get l D kc A e0 M (g.1 9 2) (lar e0 σ g 2) (nB σ) (g.2.1 2) k (g.1 3 k) (g.2.2.2 2) (g.2.2.1 2) hg8 el9b (show k < nB σ by omega) el9c (by omega) el9e) (va_cwF 1 X.1.2.2.2.2 gX7_netAnew_Jx4a65c_get_915e3_f235Jx4a65c rfl rfl rfl hcx.1.2.2.2.2.2.2.2.1 (by decide +kernel) ⟨Nat.le_of_ble_eq_true rfl, Nat.le_of_ble_eq_true rfl⟩) hg8 rfl rfl rfl hl.1 (Nat.le_of_ble_eq_true rfl) dX7_netAnew_97 ⟨by decide, by decide⟩ (fun H locs Y => ?_)
        have hg10 := hG.f3 (hpr 3 (by decide)) (show k < nB σ by omega)
        have hw11 := hwf.2.2.2.2.2.2.2.2 _ (show k < nB σ by omega)
        refine m_cast X Y (C := RX3) kwX7_netAnew_7 hg10 rfl dX7_netAnew_102 ?_
        refine lv_astore (lv' := [(6, .ref (g.1 3 k)), (0, .ref (g.1 7 0)), (1, .int (nI ja)), (2, .ref (g.1 0 ja)), (3, .long (lI (n1S σ ja (nC σ) - n2S σ ja k))), (5, .int (nI k))]) hx hb dX7_netAnew_105 hl (by decide) rfl (fun ls hl => ?_)
        refine lv_aload hx hb dX7_netAnew_107 (lv_at hl 0 rfl) ?_
        refine m_rVi (As := []) (rest := []) X Y hA hcx (c_X3_isWithCard l D kc A e0 M (g.1 3 k) (g.1 1 (σ.1 18 k)) (σ.1 19 k) (σ.1 17 k) (nI k) (cbl (σ.1 17 k) (σ.1 20 k)) hg10 (by omega)) (cwV 0 X.1.2.2.2.2 gX7_netAnew_X3_isWithCard rfl rfl rfl (by decide +kernel) ⟨Nat.le_of_ble_eq_true rfl, Nat.le_of_ble_eq_true rfl⟩) hg10 rfl rfl rfl hl.1 (Nat.le_of_ble_eq_true rfl) dX7_netAnew_109 ⟨by decide, by decide⟩ (fun H locs Y => ?_)
        by_cases hwc : σ.1 17 k = 0 ∨ σ.1 17 k = 2 ∨ σ.1 17 k = 3
        · refine n_top (bN_t hwc) ?_
          refine n_if_eq hx hb 133 (by omega) dX7_netAnew_112 (by decide) (fun zq => absurd zq (by decide)) (fun _ => ?_)
          refine lv_lload_n hx hb dX7_netAnew_115 rfl (lv_at hl 4 rfl) ?_
          refine lv_aload hx hb dX7_netAnew_116 (lv_at hl 0 rfl) ?_
          refine m_get (ref := "CardPort$Chargeback") (C := RX3) (T := TX3) (N := 5) (ci := 4) X Y htX7_netAnew_wsX303 hg10 rfl 1 (by decide) kwX7_netAnew_8 rfl (v := .ref (g.1 1 (σ.1 18 k))) rfl dX7_netAnew_118 ?_
          refine lv_aload_n hx hb dX7_netAnew_121 rfl (lv_at hl 3 rfl) ?_
          refine lv_aload hx hb dX7_netAnew_122 (lv_at hl 0 rfl) ?_
          refine m_get (ref := "CardPort$Chargeback") (C := RX3) (T := TX3) (N := 5) (ci := 4) X Y htX7_netAnew_wsX303 hg10 rfl 2 (by decide) kwX7_netAnew_9 rfl (v := .int (nI (σ.1 19 k))) rfl dX7_netAnew_124 ?_
          have hg12 := hG.f1 (hpr 1 (by decide)) (hwf.2.2.2.2.2.2.2.2 _ (show k < nB σ by omega)).2.1
          have hw13 := hwf.2.2.2.2.2.2.1 _ (hwf.2.2.2.2.2.2.2.2 _ (show k < nB σ by omega)).2.1
          have hg14 := hG.f5 (hpr 5 (by decide)) (hwf.2.2.2.2.2.2.1 _ (hwf.2.2.2.2.2.2.2.2 _ (show k < nB σ by omega)).2.1).1
          have hw15 := hwf.2.2.2.2.1 _ (hwf.2.2.2.2.2.2.1 _ (hwf.2.2.2.2.2.2.2.2 _ (show k < nB σ by omega)).2.1).1
          have hg16 := hG.f2 (hpr 2 (by decide)) (hwf.2.2.2.2.1 _ (hwf.2.2.2.2.2.2.1 _ (hwf.2.2.2.2.2.2.2.2 _ (show k < nB σ by omega)).2.1).1).1
          have hg17 := hG.f6 (hpr 6 (by decide)) (hwf.2.2.2.2.1 _ (hwf.2.2.2.2.2.2.1 _ (hwf.2.2.2.2.2.2.2.2 _ (show k < nB σ by omega)).2.1).1).2.1
          refine m_rVi (As := [.ref (g.1 0 ja), .int (nI (σ.1 19 k))]) (rest := [.long (lI (n1S σ ja (nC σ) - n2S σ ja k))]) X Y hA hcx (c_X1_shareOf l D kc A e0 M (g.1 1 (σ.1 18 k)) (g.1 5 (σ.1 12 (σ.1 18 k))) (g.1 2 (σ.1 5 (σ.1 12 (σ.1 18 k)))) (g.1 6 (σ.1 6 (σ.1 12 (σ.1 18 k)))) (g.1 0 ((σ.1 6 (σ.1 12 (σ.1 18 k))) % 4)) (g.1 0 ((σ.1 5 (σ.1 12 (σ.1 18 k))) / 3)) (g.1 0 ja) (g.1 4 (σ.1 1 (σ.1 6 (σ.1 12 (σ.1 18 k))))) (σ.1 13 (σ.1 18 k)) (σ.1 14 (σ.1 18 k)) (σ.1 15 (σ.1 18 k)) (σ.1 7 (σ.1 12 (σ.1 18 k))) (σ.1 9 (σ.1 12 (σ.1 18 k))) (σ.1 8 (σ.1 12 (σ.1 18 k))) (σ.1 10 (σ.1 12 (σ.1 18 k))) (nI (σ.1 18 k)) (nI (σ.1 12 (σ.1 18 k))) (nI (σ.1 5 (σ.1 12 (σ.1 18 k)))) (nI (σ.1 6 (σ.1 12 (σ.1 18 k)))) (nI (σ.1 19 k)) hg12 hg14 hg16 hg17) (cwV 2 X.1.2.2.2.2 gX7_netAnew_X1_shareOf rfl rfl rfl (by decide +kernel) ⟨Nat.le_of_ble_eq_true rfl, Nat.le_of_ble_eq_true rfl⟩) hg12 rfl rfl rfl hl.1 (Nat.le_of_ble_eq_true rfl) dX7_netAnew_127 ⟨by decide, by decide⟩ (fun H locs Y => ?_)
          refine lv_i2l hx hb dX7_netAnew_130 rfl ?_
          refine lv_lsub hx hb dX7_netAnew_131 ?_
          refine lv_lstore_n (lv' := [(3, .long ((lI (n1S σ ja (nC σ) - n2S σ ja k)) - ((shN (g.1 0 ((σ.1 6 (σ.1 12 (σ.1 18 k))) % 4)) (g.1 0 ((σ.1 5 (σ.1 12 (σ.1 18 k))) / 3)) (g.1 0 ja) (nI (σ.1 19 k))).toInt64))), (6, .ref (g.1 3 k)), (0, .ref (g.1 7 0)), (1, .int (nI ja)), (2, .ref (g.1 0 ja)), (5, .int (nI k))]) hx hb dX7_netAnew_132 rfl hl (by decide) rfl (fun ls hl => ?_)
          refine lv_iinc (v := (nI (k + 1))) (lv' := [(5, .int (nI (k + 1))), (3, .long ((lI (n1S σ ja (nC σ) - n2S σ ja k)) - ((shN (g.1 0 ((σ.1 6 (σ.1 12 (σ.1 18 k))) % 4)) (g.1 0 ((σ.1 5 (σ.1 12 (σ.1 18 k))) / 3)) (g.1 0 ja) (nI (σ.1 19 k))).toInt64))), (6, .ref (g.1 3 k)), (0, .ref (g.1 7 0)), (1, .int (nI ja)), (2, .ref (g.1 0 ja))]) hx hb dX7_netAnew_133 hl (k := 5) rfl (nI_add _ 1) (by decide) rfl (fun ls hl => ?_)
          refine lv_goto (tgt := 77) hx hb dX7_netAnew_136 (by decide) ?_
          have he3 : lI (n1S σ ja (nC σ) - n2S σ ja (k + 1)) = (lI (n1S σ ja (nC σ) - n2S σ ja k)) - ((shN (g.1 0 ((σ.1 6 (σ.1 12 (σ.1 18 k))) % 4)) (g.1 0 ((σ.1 5 (σ.1 12 (σ.1 18 k))) / 3)) (g.1 0 ja) (nI (σ.1 19 k))).toInt64) := by rw [n2S, if_pos hwc, t2_lI hG hwf (hpr 0 (by decide)) (show k < nB σ by omega) hja, lI_sub]; congr 1; omega
          exact ih (k := k + 1) (Y := Y) (hl := by rw [he3]; exact (lv_sub hl [3, 4, 5, 1, 0] rfl)) (hfu := by omega) (hk := by omega)
        · refine n_top (bN_f hwc) ?_
          refine n_if_eq hx hb 133 (by omega) dX7_netAnew_112 (by decide) (fun _ => ?_) (fun zq => absurd zq (by decide))
          refine lv_iinc (v := (nI (k + 1))) (lv' := [(5, .int (nI (k + 1))), (6, .ref (g.1 3 k)), (0, .ref (g.1 7 0)), (1, .int (nI ja)), (2, .ref (g.1 0 ja)), (3, .long (lI (n1S σ ja (nC σ) - n2S σ ja k)))]) hx hb dX7_netAnew_133 hl (k := 5) rfl (nI_add _ 1) (by decide) rfl (fun ls hl => ?_)
          refine lv_goto (tgt := 77) hx hb dX7_netAnew_136 (by decide) ?_
          have he3 : lI (n1S σ ja (nC σ) - n2S σ ja (k + 1)) = lI (n1S σ ja (nC σ) - n2S σ ja k) := by rw [n2S, if_neg hwc, Int.add_zero]
          exact ih (k := k + 1) (Y := Y) (hl := by rw [he3]; exact (lv_sub hl [2, 3, 4, 5, 0] rfl)) (hfu := by omega) (hk := by omega)
    | succ fu ih =>
      refine lv_iload hx hb dX7_netAnew_11 (lv_at hl 4 rfl) ?_
      refine lv_aload_n hx hb dX7_netAnew_13 rfl (lv_at hl 0 rfl) ?_
      refine m_get (ref := "CardPort") (C := RX7) (T := TX7) (N := 8) (ci := 8) X Y htX7_netAnew_wsX701 hg5 rfl 5 (by decide) kwX7_netAnew_1 rfl (v := .ref (g.1 9 1)) rfl dX7_netAnew_14 ?_
      have hg18 := hG.f9_1 (hpr 9 (by decide))
      refine m_rFi (As := []) (rest := [.int (nI k)]) X Y hA hcx (c_size l D kc A e0 M (g.1 9 1) (lar e0 σ g 1) (nC σ) (g.2.2.2 1) hg18) (va_cwF 0 X.1.2.2.2.2 gX7_netAnew_Jx4a65c_size_8abf5_f94Jx4a65c rfl rfl rfl hcx.1.2.2.2.2.2.2.1 (by decide +kernel) ⟨Nat.le_of_ble_eq_true rfl, Nat.le_of_ble_eq_true rfl⟩) hg18 rfl rfl rfl hl.1 (Nat.le_of_ble_eq_true rfl) dX7_netAnew_17 ⟨by decide, by decide⟩ (fun H locs Y => ?_)
      refine n_icmp_ge hx hb 74 (by omega) (by omega) dX7_netAnew_22 (by decide) (fun zq => absurd zq (by omega)) (fun _ => ?_)
      refine lv_aload_n hx hb dX7_netAnew_25 rfl (lv_at hl 0 rfl) ?_
      refine m_get (ref := "CardPort") (C := RX7) (T := TX7) (N := 8) (ci := 8) X Y htX7_netAnew_wsX701 hg5 rfl 5 (by decide) kwX7_netAnew_1 rfl (v := .ref (g.1 9 1)) rfl dX7_netAnew_26 ?_
      refine lv_iload hx hb dX7_netAnew_29 (lv_at hl 4 rfl) ?_
      obtain ⟨-, el19b, el19c, el19d, el19e⟩ := hG.el1 (hpr 10 (by decide)) (show k < nC σ by omega)
      refine m_rFq (As := [.int (nI k)]) (rest := []) X Y hA hcx (c_get l D kc A e0 M (g.1 9 1) (lar e0 σ g 1) (nC σ) (g.2.1 1) k (g.1 1 k) (g.2.2.2 1) (g.2.2.1 1) hg18 el19b (show k < nC σ by omega) el19c (by omega) el19e) (va_cwF 1 X.1.2.2.2.2 gX7_netAnew_Jx4a65c_get_915e3_f235Jx4a65c rfl rfl rfl hcx.1.2.2.2.2.2.2.2.1 (by decide +kernel) ⟨Nat.le_of_ble_eq_true rfl, Nat.le_of_ble_eq_true rfl⟩) hg18 rfl rfl rfl hl.1 (Nat.le_of_ble_eq_true rfl) dX7_netAnew_31 ⟨by decide, by decide⟩ (fun H locs Y => ?_)
      have hg20 := hG.f1 (hpr 1 (by decide)) (show k < nC σ by omega)
      have hw21 := hwf.2.2.2.2.2.2.1 _ (show k < nC σ by omega)
      refine m_cast X Y (C := RX1) kwX7_netAnew_2 hg20 rfl dX7_netAnew_36 ?_
      refine lv_astore (lv' := [(6, .ref (g.1 1 k)), (0, .ref (g.1 7 0)), (1, .int (nI ja)), (2, .ref (g.1 0 ja)), (3, .long (lI (n1S σ ja k))), (5, .int (nI k))]) hx hb dX7_netAnew_39 hl (by decide) rfl (fun ls hl => ?_)
      refine lv_lload_n hx hb dX7_netAnew_41 rfl (lv_at hl 4 rfl) ?_
      refine lv_aload hx hb dX7_netAnew_42 (lv_at hl 0 rfl) ?_
      refine lv_aload_n hx hb dX7_netAnew_44 rfl (lv_at hl 3 rfl) ?_
      refine lv_aload hx hb dX7_netAnew_45 (lv_at hl 0 rfl) ?_
      refine m_get (ref := "CardPort$Capture") (C := RX1) (T := TX1) (N := 5) (ci := 2) X Y htX7_netAnew_wsX102 hg20 rfl 2 (by decide) kwX7_netAnew_3 rfl (v := .int (nI (σ.1 13 k))) rfl dX7_netAnew_47 ?_
      refine lv_aload hx hb dX7_netAnew_50 (lv_at hl 0 rfl) ?_
      refine m_get (ref := "CardPort$Capture") (C := RX1) (T := TX1) (N := 5) (ci := 2) X Y htX7_netAnew_wsX102 hg20 rfl 3 (by decide) kwX7_netAnew_4 rfl (v := .int (nI (σ.1 14 k))) rfl dX7_netAnew_52 ?_
      refine n_isub hx hb (by omega) dX7_netAnew_55 ?_
      refine lv_aload hx hb dX7_netAnew_56 (lv_at hl 0 rfl) ?_
      refine m_get (ref := "CardPort$Capture") (C := RX1) (T := TX1) (N := 5) (ci := 2) X Y htX7_netAnew_wsX102 hg20 rfl 4 (by decide) kwX7_netAnew_5 rfl (v := .int (nI (σ.1 15 k))) rfl dX7_netAnew_58 ?_
      refine lv_isub hx hb dX7_netAnew_61 ?_
      have hg22 := hG.f5 (hpr 5 (by decide)) (hwf.2.2.2.2.2.2.1 _ (show k < nC σ by omega)).1
      have hw23 := hwf.2.2.2.2.1 _ (hwf.2.2.2.2.2.2.1 _ (show k < nC σ by omega)).1
      have hg24 := hG.f2 (hpr 2 (by decide)) (hwf.2.2.2.2.1 _ (hwf.2.2.2.2.2.2.1 _ (show k < nC σ by omega)).1).1
      have hg25 := hG.f6 (hpr 6 (by decide)) (hwf.2.2.2.2.1 _ (hwf.2.2.2.2.2.2.1 _ (show k < nC σ by omega)).1).2.1
      refine m_rVi (As := [.ref (g.1 0 ja), .int ((nI ((σ.1 13 k) - (σ.1 14 k))) - (nI (σ.1 15 k)))]) (rest := [.long (lI (n1S σ ja k))]) X Y hA hcx (c_X1_shareOf l D kc A e0 M (g.1 1 k) (g.1 5 (σ.1 12 k)) (g.1 2 (σ.1 5 (σ.1 12 k))) (g.1 6 (σ.1 6 (σ.1 12 k))) (g.1 0 ((σ.1 6 (σ.1 12 k)) % 4)) (g.1 0 ((σ.1 5 (σ.1 12 k)) / 3)) (g.1 0 ja) (g.1 4 (σ.1 1 (σ.1 6 (σ.1 12 k)))) (σ.1 13 k) (σ.1 14 k) (σ.1 15 k) (σ.1 7 (σ.1 12 k)) (σ.1 9 (σ.1 12 k)) (σ.1 8 (σ.1 12 k)) (σ.1 10 (σ.1 12 k)) (nI k) (nI (σ.1 12 k)) (nI (σ.1 5 (σ.1 12 k))) (nI (σ.1 6 (σ.1 12 k))) ((nI ((σ.1 13 k) - (σ.1 14 k))) - (nI (σ.1 15 k))) hg20 hg22 hg24 hg25) (cwV 2 X.1.2.2.2.2 gX7_netAnew_X1_shareOf rfl rfl rfl (by decide +kernel) ⟨Nat.le_of_ble_eq_true rfl, Nat.le_of_ble_eq_true rfl⟩) hg20 rfl rfl rfl hl.1 (Nat.le_of_ble_eq_true rfl) dX7_netAnew_62 ⟨by decide, by decide⟩ (fun H locs Y => ?_)
      refine lv_i2l hx hb dX7_netAnew_65 rfl ?_
      refine lv_ladd hx hb dX7_netAnew_66 ?_
      refine lv_lstore_n (lv' := [(3, .long ((lI (n1S σ ja k)) + ((shN (g.1 0 ((σ.1 6 (σ.1 12 k)) % 4)) (g.1 0 ((σ.1 5 (σ.1 12 k)) / 3)) (g.1 0 ja) ((nI ((σ.1 13 k) - (σ.1 14 k))) - (nI (σ.1 15 k)))).toInt64))), (6, .ref (g.1 1 k)), (0, .ref (g.1 7 0)), (1, .int (nI ja)), (2, .ref (g.1 0 ja)), (5, .int (nI k))]) hx hb dX7_netAnew_67 rfl hl (by decide) rfl (fun ls hl => ?_)
      refine lv_iinc (v := (nI (k + 1))) (lv' := [(5, .int (nI (k + 1))), (3, .long ((lI (n1S σ ja k)) + ((shN (g.1 0 ((σ.1 6 (σ.1 12 k)) % 4)) (g.1 0 ((σ.1 5 (σ.1 12 k)) / 3)) (g.1 0 ja) ((nI ((σ.1 13 k) - (σ.1 14 k))) - (nI (σ.1 15 k)))).toInt64))), (6, .ref (g.1 1 k)), (0, .ref (g.1 7 0)), (1, .int (nI ja)), (2, .ref (g.1 0 ja))]) hx hb dX7_netAnew_68 hl (k := 5) rfl (nI_add _ 1) (by decide) rfl (fun ls hl => ?_)
      refine lv_goto (tgt := 11) hx hb dX7_netAnew_71 (by decide) ?_
      have he3 : lI (n1S σ ja (k + 1)) = (lI (n1S σ ja k)) + ((shN (g.1 0 ((σ.1 6 (σ.1 12 k)) % 4)) (g.1 0 ((σ.1 5 (σ.1 12 k)) / 3)) (g.1 0 ja) ((nI ((σ.1 13 k) - (σ.1 14 k))) - (nI (σ.1 15 k)))).toInt64) := by rw [n1S, ← lI_add]; congr 1; exact (t1_lI hG hwf (hpr 0 (by decide)) (show k < nC σ by omega) hja).symm
      exact ih (k := k + 1) (Y := Y) (hl := by rw [he3]; exact (lv_sub hl [3, 4, 5, 1, 0] rfl)) (hfu := by omega) (hk := by omega)
theorem kwX7_due_3 : Cond.fieldLink RX7 43 "CardPort" "chargebacks" "Ljava/util/List;" ∈ wsX7_due := List.mem_of_getElem? (i := 3) rfl
theorem htX7_due_wsX701 : ∀ w ∈ wsX70, w ∈ wsX7_due := fun _ h => List.mem_cons_of_mem _ (List.mem_append_left _ (List.mem_append_left _ (List.mem_append_left _ (List.mem_append_right _ h))))
theorem kwX7_due_4 : Cond.fieldLink RX7 179 "CardPort$Chargeback" "number" "I" ∈ wsX7_due := List.mem_of_getElem? (i := 4) rfl
theorem htX7_due_wsX302 : ∀ w ∈ wsX30, w ∈ wsX7_due := fun _ h => List.mem_cons_of_mem _ (List.mem_append_left _ (List.mem_append_left _ (List.mem_append_right _ h)))
theorem kwX7_due_1 : Cond.classLink RX7 247 "java/lang/IndexOutOfBoundsException" ∈ wsX7_due := List.mem_of_getElem? (i := 1) rfl
theorem kwX7_due_2 : Cond.initialized "java/lang/IndexOutOfBoundsException" ∈ wsX7_due := List.mem_of_getElem? (i := 2) rfl
theorem htX7_due_vx_atSRX7251ja4 : ∀ w ∈ (vx_atS RX7 251 "java/lang/IndexOutOfBoundsException" ["java/lang/RuntimeException", "java/lang/Exception"]).filter goodWord, w ∈ wsX7_due := fun _ h => List.mem_cons_of_mem _ (List.mem_append_right _ h)
set_option maxHeartbeats 4000000 in
set_option maxRecDepth 100000 in
theorem c_X7_due (l : Launch) (hlt : l.stackTraces = false) (D : va_G) (kc : Nat → ClassId) (A : Nat → Prop) (e0 : Nat × Nat) (M : Mp) {pr : Nat → Prop} {σ τ : Sg} {th : Int32} {o : Int64} {g : Gh} {nn : Nat} (hG : G pr kc e0 σ τ th o g M) (hwf : WS nn σ) (hpr : ∀ t, t ≤ 10 → pr t) (a : Int32) : vx_Met l yX7_due wsX7_due ({ frames := 8, cells := 12, slots := 320, locals := 300 }) (mPre D kc A e0 M [.ref (g.1 7 0), .int a]) (va_Qi (PC pr kc e0 τ th o g (sp_due σ a)) (mB D A) A) (mXC D A (xP M [1] (sp_due σ a).1)) 12 320 A := by
  refine vx_ofW (cc := cX7_due) (maxL := 4) (ret := (some .int)) (by decide) rfl ?_
  intro p e s m args below meth c s₁ B hml htab hv
  obtain ⟨rfl, hw, hK, hA, hcx⟩ := hv
  have X : mX p s m _ c cX7_due 4 RX7 wsX7_due D kc := ⟨⟨B.exec, B.bytes, hml, findClass_of_methodNamed B.named, atoms_spec (ws := wsX7_due) B.pre⟩, hK⟩
  have hx := B.exec
  have hb := B.bytes
  have hr := B.returns
  have hlocks := B.notSynchronized
  have Y : mY D A M s s.heap [] := ⟨hw, va_S.rf⟩
  have hl := lv_entry ([.ref (g.1 7 0), .int a]) (n := 4) (Nat.le_of_ble_eq_true rfl)
  rw [lg_entry_eq]
  generalize (lg_sl ([.ref (g.1 7 0), .int a]) ++ List.replicate (4 - (lg_sl ([.ref (g.1 7 0), .int a])).length) Slot.unset).toArray = ls at hl ⊢
  have hl : lv_has ls 4 [(0, .ref (g.1 7 0)), (1, .int a)] := hl
  have hwn := hwf.2.2.2.1
  have hwd := hwf.1
  refine lv_iload_n hx hb dX7_due_0 rfl (lv_at hl 1 rfl) ?_
  refine lv_if_ge (tgt := 14) hx hb dX7_due_1 (by decide) (fun c1 => ?_) (fun c1 => ?_)
  · have hz9 : 0 ≤ a.toInt := by rw [Int32.le_iff_toInt_le] at c1; exact c1
    have hltx := Int32.toInt_lt a
    obtain ⟨ja, hja⟩ : ∃ ja : Nat, ja = ix a := ⟨_, rfl⟩
    have hjl : ja < 2147483648 := by rw [hja]; unfold ix; omega
    have hae : a = nI ja := by rw [hja]; exact nI_ix hz9
    have e9 : sp_due σ a = (0, duS σ ja (nB σ), σ) := by unfold sp_due; rw [if_pos hz9, ← hja]
    replace hl : lv_has ls 4 [(0, .ref (g.1 7 0)), (1, .int (nI ja))] := by
      rw [← hae]; exact hl
    clear hja hz9 hltx c1 hae
    refine lv_null hx hb dX7_due_14 ?_
    refine lv_astore_nN (lv' := [(2, .null), (0, .ref (g.1 7 0)), (1, .int (nI ja))]) hx hb dX7_due_15 rfl hl (by decide) rfl (fun ls hl => ?_)
    refine n_iconst hx hb 0 dX7_due_16 (by decide) ?_
    refine lv_istore_n (lv' := [(3, .int (nI 0)), (2, .null), (0, .ref (g.1 7 0)), (1, .int (nI ja))]) hx hb dX7_due_17 rfl hl (by decide) rfl (fun ls hl => ?_)
    generalize s.heap = H at Y ⊢
    generalize ([] : List Loc) = locs at Y ⊢
    obtain ⟨k, hk0⟩ : ∃ k : Nat, k = 0 := ⟨_, rfl⟩
    obtain ⟨la, hla0⟩ : ∃ la : Option Nat, la = none := ⟨_, rfl⟩
    replace hl : lv_has ls 4 [(3, .int (nI k)), (2, va_rf (la.map (g.1 3))), (0, .ref (g.1 7 0)), (1, .int (nI ja))] := by
      rw [hk0, hla0]; exact hl
    replace hl : lv_has ls 4 [(0, .ref (g.1 7 0)), (1, .int (nI ja)), (2, va_rf (la.map (g.1 3))), (3, .int (nI k))] := lv_sub hl [2, 3, 1, 0] rfl
    have hla : laO σ k la := by rw [hk0, hla0]; rfl
    have hk : k ≤ nB σ := by omega
    have hkj : k ≤ ja := by omega
    clear hk0 hla0
    obtain ⟨fu, hfu⟩ : ∃ fu : Nat, fu = nB σ - k := ⟨_, rfl⟩
    induction fu generalizing k la H locs ls with
    | zero =>
      obtain rfl : k = nB σ := by omega
      refine lv_iload_n hx hb dX7_due_18 rfl (lv_at hl 3 rfl) ?_
      refine lv_aload_n hx hb dX7_due_19 rfl (lv_at hl 0 rfl) ?_
      have hg1 := hG.f7 (hpr 7 (by decide))
      refine m_get (ref := "CardPort") (C := RX7) (T := TX7) (N := 8) (ci := 8) X Y htX7_due_wsX701 hg1 rfl 6 (by decide) kwX7_due_3 rfl (v := .ref (g.1 9 2)) rfl dX7_due_20 ?_
      have hg2 := hG.f9_2 (hpr 9 (by decide))
      refine m_rFi (As := []) (rest := [.int (nI (nB σ))]) X Y hA hcx (c_size l D kc A e0 M (g.1 9 2) (lar e0 σ g 2) (nB σ) (g.2.2.2 2) hg2) (va_cwF 0 X.1.2.2.2.2 gX7_due_Jx4a65c_size_8abf5_f94Jx4a65c rfl rfl rfl hcx.1.2.2.2.2.2.2.1 (by decide +kernel) ⟨Nat.le_of_ble_eq_true rfl, Nat.le_of_ble_eq_true rfl⟩) hg2 rfl rfl rfl hl.1 (Nat.le_of_ble_eq_true rfl) dX7_due_23 ⟨by decide, by decide⟩ (fun H locs Y => ?_)
      refine n_icmp_ge hx hb 59 (by omega) (by omega) dX7_due_28 (by decide) (fun _ => ?_) (fun zq => absurd zq (by omega))
      refine lv_iconst (v := -1) hx hb dX7_due_59 (by decide) ?_
      refine vx_ret (m_iret X Y hr hlocks (by decide) (by decide) ?_ dX7_due_60)
      exact PC_i (by rw [e9, duS_none (nB σ) (fun j hj hd zq => by have := ra_b (σ := σ) j (nB σ); rw [if_pos hj] at this; omega)]) (KG.rf g) hG
    | succ fu ih =>
      refine lv_iload_n hx hb dX7_due_18 rfl (lv_at hl 3 rfl) ?_
      refine lv_aload_n hx hb dX7_due_19 rfl (lv_at hl 0 rfl) ?_
      have hg3 := hG.f7 (hpr 7 (by decide))
      refine m_get (ref := "CardPort") (C := RX7) (T := TX7) (N := 8) (ci := 8) X Y htX7_due_wsX701 hg3 rfl 6 (by decide) kwX7_due_3 rfl (v := .ref (g.1 9 2)) rfl dX7_due_20 ?_
      have hg4 := hG.f9_2 (hpr 9 (by decide))
      refine m_rFi (As := []) (rest := [.int (nI k)]) X Y hA hcx (c_size l D kc A e0 M (g.1 9 2) (lar e0 σ g 2) (nB σ) (g.2.2.2 2) hg4) (va_cwF 0 X.1.2.2.2.2 gX7_due_Jx4a65c_size_8abf5_f94Jx4a65c rfl rfl rfl hcx.1.2.2.2.2.2.2.1 (by decide +kernel) ⟨Nat.le_of_ble_eq_true rfl, Nat.le_of_ble_eq_true rfl⟩) hg4 rfl rfl rfl hl.1 (Nat.le_of_ble_eq_true rfl) dX7_due_23 ⟨by decide, by decide⟩ (fun H locs Y => ?_)
      refine n_icmp_ge hx hb 59 (by omega) (by omega) dX7_due_28 (by decide) (fun zq => absurd zq (by omega)) (fun _ => ?_)
      refine lv_aload_n hx hb dX7_due_31 rfl (lv_at hl 0 rfl) ?_
      cases la with
      | none =>
        replace hl : lv_has ls 4 [(0, .ref (g.1 7 0)), (1, .int (nI ja)), (2, .null), (3, .int (nI k))] := by
          exact hl
        refine lv_aload_nN hx hb dX7_due_32 rfl (lv_at hl 2 rfl) ?_
        refine m_Vq (As := [.null]) (rest := []) X Y hA hcx (c_nxn l D kc A e0 M hG hwf hpr) (cwV 1 X.1.2.2.2.2 gX7_due_X7_nextDueBehind rfl rfl rfl (by decide +kernel) ⟨Nat.le_of_ble_eq_true rfl, Nat.le_of_ble_eq_true rfl⟩) hg3 rfl rfl rfl hl.1 (Nat.le_of_ble_eq_true rfl) dX7_due_33 ⟨by decide, by decide⟩ (fun r5 M6 H locs p7 Y => ?_)
        obtain ⟨r9, hr9, hn9, hM9, hb9⟩ := p7
        rw [hM9] at Y
        subst hr9
        obtain ⟨hla1, hla2⟩ := la_next hwf hla hn9
        cases r9 with
        | none =>
          refine W.eq (g2 := F0 m 36 ls [.null]) rfl ?_
          refine lv_astore_nN (lv' := [(2, .null), (0, .ref (g.1 7 0)), (1, .int (nI ja)), (3, .int (nI k))]) hx hb dX7_due_36 rfl hl (by decide) rfl (fun ls hl => ?_)
          refine lv_aload_nN hx hb dX7_due_37 rfl (lv_at hl 0 rfl) ?_
          refine lv_ifnonnullN hx hb dX7_due_38 ?_
          refine lv_iconst (v := -1) hx hb dX7_due_41 (by decide) ?_
          refine vx_ret (m_iret X Y hr hlocks (by decide) (by decide) ?_ dX7_due_42)
          exact PC_i (by rw [e9, duS_none (nB σ) (fun j hj hd zq => by have := hla2 rfl j hj hd; omega)]) (KG.rf g) hG
        | some m9 =>
          refine W.eq (g2 := F0 m 36 ls [.ref (g.1 3 m9)]) rfl ?_
          have hm9 := hb9 m9 rfl
          obtain ⟨hla3, hra9⟩ := hla1 m9 rfl
          refine lv_astore_n (lv' := [(2, .ref (g.1 3 m9)), (0, .ref (g.1 7 0)), (1, .int (nI ja)), (3, .int (nI k))]) hx hb dX7_due_36 rfl hl (by decide) rfl (fun ls hl => ?_)
          refine lv_aload_n hx hb dX7_due_37 rfl (lv_at hl 0 rfl) ?_
          refine lv_ifnonnull (tgt := 43) hx hb dX7_due_38 (by decide) ?_
          refine lv_iload_n hx hb dX7_due_43 rfl (lv_at hl 3 rfl) ?_
          refine lv_iload_n hx hb dX7_due_44 rfl (lv_at hl 2 rfl) ?_
          refine n_icmp_ne hx hb 53 (by omega) (by omega) dX7_due_45 (by decide) (fun c45 => ?_) (fun c45 => ?_)
          · refine lv_iinc (v := (nI (k + 1))) (lv' := [(3, .int (nI (k + 1))), (2, .ref (g.1 3 m9)), (0, .ref (g.1 7 0)), (1, .int (nI ja))]) hx hb dX7_due_53 hl (k := 3) rfl (nI_add _ 1) (by decide) rfl (fun ls hl => ?_)
            refine lv_goto (tgt := 18) hx hb dX7_due_56 (by decide) ?_
            exact ih (k := k + 1) (la := some m9) (Y := Y) (hl := (lv_sub hl [2, 3, 1, 0] rfl)) (hfu := by omega) (hk := by omega) (hkj := by omega) (hla := hla3)
          · refine lv_aload_n hx hb dX7_due_48 rfl (lv_at hl 0 rfl) ?_
            have hg8 := hG.f3 (hpr 3 (by decide)) hm9
            have hw9 := hwf.2.2.2.2.2.2.2.2 _ hm9
            refine m_get (ref := "CardPort$Chargeback") (C := RX3) (T := TX3) (N := 5) (ci := 4) X Y htX7_due_wsX302 hg8 rfl 0 (by decide) kwX7_due_4 rfl (v := .int (nI m9)) rfl dX7_due_49 ?_
            refine vx_ret (m_iret X Y hr hlocks (by decide) (by decide) ?_ dX7_due_52)
            exact PC_i (by rw [e9, duS_some hla3.2.1 (by omega) hm9 (nB σ) (Nat.le_refl _) hm9]) (KG.rf g) hG
      | some x =>
        replace hl : lv_has ls 4 [(0, .ref (g.1 7 0)), (1, .int (nI ja)), (2, .ref (g.1 3 x)), (3, .int (nI k))] := by
          exact hl
        refine lv_aload_n hx hb dX7_due_32 rfl (lv_at hl 2 rfl) ?_
        have hx9 := hla.1
        refine m_Vq (As := [.ref (g.1 3 x)]) (rest := []) X Y hA hcx (c_nxs l D kc A e0 M hG hwf hpr x hx9) (cwV 1 X.1.2.2.2.2 gX7_due_X7_nextDueBehind rfl rfl rfl (by decide +kernel) ⟨Nat.le_of_ble_eq_true rfl, Nat.le_of_ble_eq_true rfl⟩) hg3 rfl rfl rfl hl.1 (Nat.le_of_ble_eq_true rfl) dX7_due_33 ⟨by decide, by decide⟩ (fun r10 M11 H locs p12 Y => ?_)
        obtain ⟨r9, hr9, hn9, hM9, hb9⟩ := p12
        rw [hM9] at Y
        subst hr9
        obtain ⟨hla1, hla2⟩ := la_next hwf hla hn9
        cases r9 with
        | none =>
          refine W.eq (g2 := F0 m 36 ls [.null]) rfl ?_
          refine lv_astore_nN (lv' := [(2, .null), (0, .ref (g.1 7 0)), (1, .int (nI ja)), (3, .int (nI k))]) hx hb dX7_due_36 rfl hl (by decide) rfl (fun ls hl => ?_)
          refine lv_aload_nN hx hb dX7_due_37 rfl (lv_at hl 0 rfl) ?_
          refine lv_ifnonnullN hx hb dX7_due_38 ?_
          refine lv_iconst (v := -1) hx hb dX7_due_41 (by decide) ?_
          refine vx_ret (m_iret X Y hr hlocks (by decide) (by decide) ?_ dX7_due_42)
          exact PC_i (by rw [e9, duS_none (nB σ) (fun j hj hd zq => by have := hla2 rfl j hj hd; omega)]) (KG.rf g) hG
        | some m9 =>
          refine W.eq (g2 := F0 m 36 ls [.ref (g.1 3 m9)]) rfl ?_
          have hm9 := hb9 m9 rfl
          obtain ⟨hla3, hra9⟩ := hla1 m9 rfl
          refine lv_astore_n (lv' := [(2, .ref (g.1 3 m9)), (0, .ref (g.1 7 0)), (1, .int (nI ja)), (3, .int (nI k))]) hx hb dX7_due_36 rfl hl (by decide) rfl (fun ls hl => ?_)
          refine lv_aload_n hx hb dX7_due_37 rfl (lv_at hl 0 rfl) ?_
          refine lv_ifnonnull (tgt := 43) hx hb dX7_due_38 (by decide) ?_
          refine lv_iload_n hx hb dX7_due_43 rfl (lv_at hl 3 rfl) ?_
          refine lv_iload_n hx hb dX7_due_44 rfl (lv_at hl 2 rfl) ?_
          refine n_icmp_ne hx hb 53 (by omega) (by omega) dX7_due_45 (by decide) (fun c45 => ?_) (fun c45 => ?_)
          · refine lv_iinc (v := (nI (k + 1))) (lv' := [(3, .int (nI (k + 1))), (2, .ref (g.1 3 m9)), (0, .ref (g.1 7 0)), (1, .int (nI ja))]) hx hb dX7_due_53 hl (k := 3) rfl (nI_add _ 1) (by decide) rfl (fun ls hl => ?_)
            refine lv_goto (tgt := 18) hx hb dX7_due_56 (by decide) ?_
            exact ih (k := k + 1) (la := some m9) (Y := Y) (hl := (lv_sub hl [2, 3, 1, 0] rfl)) (hfu := by omega) (hk := by omega) (hkj := by omega) (hla := hla3)
          · refine lv_aload_n hx hb dX7_due_48 rfl (lv_at hl 0 rfl) ?_
            have hg13 := hG.f3 (hpr 3 (by decide)) hm9
            have hw14 := hwf.2.2.2.2.2.2.2.2 _ hm9
            refine m_get (ref := "CardPort$Chargeback") (C := RX3) (T := TX3) (N := 5) (ci := 4) X Y htX7_due_wsX302 hg13 rfl 0 (by decide) kwX7_due_4 rfl (v := .int (nI m9)) rfl dX7_due_49 ?_
            refine vx_ret (m_iret X Y hr hlocks (by decide) (by decide) ?_ dX7_due_52)
            exact PC_i (by rw [e9, duS_some hla3.2.1 (by omega) hm9 (nB σ) (Nat.le_refl _) hm9]) (KG.rf g) hG
  · have e8 : (sp_due σ a).1 = 1 := by unfold sp_due; rw [if_neg (by intro zq; exact c1 (by rw [Int32.le_iff_toInt_le]; exact zq))]
    exact m_throw X Y hcx hlt htab hlocks hl.1 1 (is := 249) (text := "rank is below 0") (by decide) th_fit.1 th_good1 th_ng1 (by decide) kwX7_due_1 kwX7_due_2 htX7_due_vx_atSRX7251ja4 dX7_due_4 dX7_due_7 dX7_due_8 dX7_due_10 dX7_due_13 (by decide) (Nat.le_of_ble_eq_true rfl) (by decide) (by decide) (by decide) (by decide) (xP_i (k := 0) (z := 1) e8 rfl rfl)
