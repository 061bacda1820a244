theorem vI_out {x : Int32} {n : Nat} (h : vI x n = false) : x.toInt < 0 ∨ (n : Int) - 1 < x.toInt := by
  simp only [vI, Bool.and_eq_false_iff, decide_eq_false_iff_not] at h
  omega
/-- the end of a call that answers -/
def PC (pr : Nat → Prop) (kc : Nat → ClassId) (e0 : Nat × Nat) (τ : Sg) (th : Int32) (o : Int64) (g : Gh) (an : An) : Int32 → Mp → Prop := fun r M1 => an.1 = 0 ∧ r = an.2.1 ∧ ∃ g', KG g g' ∧ G pr kc e0 an.2.2 τ th o g' M1
theorem PC_i {pr : Nat → Prop} {kc : Nat → ClassId} {e0 : Nat × Nat} {τ : Sg} {th : Int32} {o : Int64} {g g' : Gh} {an : An} {r : Int32} {σ' : Sg} {M1 : Mp} (h : an = (0, r, σ')) (hk : KG g g') (hG : G pr kc e0 σ' τ th o g' M1) : PC pr kc e0 τ th o g an r M1 := by
  subst h; exact ⟨rfl, rfl, g', hk, hG⟩
/-- the end of a call that throws the one at its place in the list -/
def xP (M : Mp) (L : List Nat) (c : Nat) : String × Mp → Prop := fun u => c ≠ 0 ∧ u = (exn (L.getD (c - 1) 0), M)
theorem xP_i {M : Mp} {L : List Nat} {c k z : Nat} {u : String × Mp} (h : c = k + 1) (h2 : L.getD k 0 = z) (hu : u = (exn z, M)) : xP M L c u := by
  subst h; exact ⟨Nat.succ_ne_zero _, by rw [hu, ← h2]; rfl⟩
theorem kwX7_shop_1 : Cond.fieldLink RX7 68 "CardPort$Shop" "kind" "LCardPort$Kind;" ∈ wsX7_shop := List.mem_of_getElem? (i := 1) rfl
theorem htX7_shop_wsX601 : ∀ w ∈ wsX60, w ∈ wsX7_shop := fun _ h => List.mem_cons_of_mem _ (List.mem_append_left _ (List.mem_append_left _ (List.mem_append_left _ (List.mem_append_right _ h))))
theorem kwX7_shop_2 : Cond.fieldLink RX7 72 "CardPort$Kind" "number" "I" ∈ wsX7_shop := List.mem_of_getElem? (i := 2) rfl
theorem htX7_shop_wsX402 : ∀ w ∈ wsX40, w ∈ wsX7_shop := fun _ h => List.mem_cons_of_mem _ (List.mem_append_left _ (List.mem_append_left _ (List.mem_append_right _ h)))
set_option maxHeartbeats 4000000 in
set_option maxRecDepth 100000 in
theorem c_X7_shop (l : Launch) (hlt : l.stackTraces = false) (D : va_G) (kc : Nat → ClassId) (A : Nat → Prop) (e0 : Nat × Nat) (M : Mp) {pr : Nat → Prop} {σ τ : Sg} {th : Int32} {o : Int64} {g : Gh} {nn : Nat} (hG : G pr kc e0 σ τ th o g M) (hwf : WS nn σ) (hpr : ∀ t, t ≤ 10 → pr t) (a b : Int32) : vx_Met l yX7_shop wsX7_shop ({ frames := 8, cells := 12, slots := 320, locals := 300 }) (mPre D kc A e0 M [.ref (g.1 7 0), .int a, .int b]) (va_Qi (PC pr kc e0 τ th o g (sp_shop σ a b)) (mB D A) A) (mXC D A (xP M [1] (sp_shop σ a b).1)) 12 320 A := by
  refine vx_ofW (cc := cX7_shop) (maxL := 6) (ret := (some .int)) (by decide) rfl ?_
  intro p e s m args below meth c s₁ B hml htab hv
  obtain ⟨rfl, hw, hK, hA, hcx⟩ := hv
  have X : mX p s m _ c cX7_shop 6 RX7 wsX7_shop D kc := ⟨⟨B.exec, B.bytes, hml, findClass_of_methodNamed B.named, atoms_spec (ws := wsX7_shop) B.pre⟩, hK⟩
  have hx := B.exec
  have hb := B.bytes
  have hr := B.returns
  have hlocks := B.notSynchronized
  have Y : mY D A M s s.heap [] := ⟨hw, va_S.rf⟩
  have hl := lv_entry ([.ref (g.1 7 0), .int a, .int b]) (n := 6) (Nat.le_of_ble_eq_true rfl)
  rw [lg_entry_eq]
  generalize (lg_sl ([.ref (g.1 7 0), .int a, .int b]) ++ List.replicate (6 - (lg_sl ([.ref (g.1 7 0), .int a, .int b])).length) Slot.unset).toArray = ls at hl ⊢
  have hl : lv_has ls 6 [(0, .ref (g.1 7 0)), (1, .int a), (2, .int b)] := hl
  have hwn := hwf.2.2.2.1
  have hwd := hwf.1
  refine lv_aload_n hx hb dX7_shop_0 rfl (lv_at hl 0 rfl) ?_
  refine lv_iload_n hx hb dX7_shop_1 rfl (lv_at hl 1 rfl) ?_
  cases hva : vI a 8 with
  | false =>
    have hg1 := hG.f7 (hpr 7 (by decide))
    refine m_xVq (As := [.int a]) (rest := []) X Y hA hcx (c_shopAt_bad l hlt D kc A e0 M (g.1 7 0) a (vI_f hva (by decide))) (cwV 1 X.1.2.2.2.2 gX7_shop_X7_shopAt rfl rfl rfl (by decide +kernel) ⟨Nat.le_of_ble_eq_true rfl, Nat.le_of_ble_eq_true rfl⟩) hg1 rfl rfl rfl hl.1 (Nat.le_of_ble_eq_true rfl) dX7_shop_2 ⟨by decide, by decide⟩ htab hlocks (by decide) (by decide) (fun u hu => xP_i (k := 0) (z := 1) (by simp only [sp_shop, hva, Bool.and_self, Bool.and_true, Bool.and_false, Bool.false_and, Bool.true_and, Bool.false_eq_true, reduceIte]) rfl hu) (fun r2 M3 H locs p4 Y => ?_)
    exact p4.elim
  | true =>
    obtain ⟨ja, hja, hla, rfl⟩ := vI_t hva
    have hia := ix_nI hla
    have hg5 := hG.f7 (hpr 7 (by decide))
    refine m_rxVq (As := [.int (nI ja)]) (rest := []) X Y hA hcx (c_shopAt l hlt D kc A e0 M hG hwf hpr ja hja) (cwV 1 X.1.2.2.2.2 gX7_shop_X7_shopAt rfl rfl rfl (by decide +kernel) ⟨Nat.le_of_ble_eq_true rfl, Nat.le_of_ble_eq_true rfl⟩) hg5 rfl rfl rfl hl.1 (Nat.le_of_ble_eq_true rfl) dX7_shop_2 ⟨by decide, by decide⟩ htab hlocks (by decide) (by decide) (fun u h => h.elim) (fun H locs Y => ?_)
    refine lv_astore_n (lv' := [(3, .ref (g.1 6 ja)), (0, .ref (g.1 7 0)), (1, .int (nI ja)), (2, .int b)]) hx hb dX7_shop_5 rfl hl (by decide) rfl (fun ls hl => ?_)
    refine lv_aload_n hx hb dX7_shop_6 rfl (lv_at hl 1 rfl) ?_
    refine lv_iload_n hx hb dX7_shop_7 rfl (lv_at hl 3 rfl) ?_
    cases hvb : vI b 3 with
    | false =>
      refine m_xVq (As := [.int b]) (rest := []) X Y hA hcx (c_kindAt_bad l hlt D kc A e0 M (g.1 7 0) b (vI_f hvb (by decide))) (cwV 1 X.1.2.2.2.2 gX7_shop_X7_kindAt rfl rfl rfl (by decide +kernel) ⟨Nat.le_of_ble_eq_true rfl, Nat.le_of_ble_eq_true rfl⟩) hg5 rfl rfl rfl hl.1 (Nat.le_of_ble_eq_true rfl) dX7_shop_8 ⟨by decide, by decide⟩ htab hlocks (by decide) (by decide) (fun u hu => xP_i (k := 0) (z := 1) (by simp only [sp_shop, hva, ix_nI hla, hvb, Bool.and_self, Bool.and_true, Bool.and_false, Bool.false_and, Bool.true_and, Bool.false_eq_true, reduceIte]) rfl hu) (fun r6 M7 H locs p8 Y => ?_)
      exact p8.elim
    | true =>
      obtain ⟨jb, hjb, hlb, rfl⟩ := vI_t hvb
      have hib := ix_nI hlb
      refine m_rxVq (As := [.int (nI jb)]) (rest := []) X Y hA hcx (c_kindAt l hlt D kc A e0 M hG hwf hpr jb hjb) (cwV 1 X.1.2.2.2.2 gX7_shop_X7_kindAt rfl rfl rfl (by decide +kernel) ⟨Nat.le_of_ble_eq_true rfl, Nat.le_of_ble_eq_true rfl⟩) hg5 rfl rfl rfl hl.1 (Nat.le_of_ble_eq_true rfl) dX7_shop_8 ⟨by decide, by decide⟩ htab hlocks (by decide) (by decide) (fun u h => h.elim) (fun H locs Y => ?_)
      refine lv_astore (lv' := [(4, .ref (g.1 4 jb)), (3, .ref (g.1 6 ja)), (0, .ref (g.1 7 0)), (1, .int (nI ja)), (2, .int (nI jb))]) hx hb dX7_shop_11 hl (by decide) rfl (fun ls hl => ?_)
      refine lv_aload_n hx hb dX7_shop_13 rfl (lv_at hl 1 rfl) ?_
      have hg9 := hG.f6 (hpr 6 (by decide)) hja
      refine m_get (ref := "CardPort$Shop") (C := RX6) (T := TX6) (N := 3) (ci := 7) X Y htX7_shop_wsX601 hg9 rfl 2 (by decide) kwX7_shop_1 rfl (v := .ref (g.1 4 (σ.1 1 ja))) rfl dX7_shop_14 ?_
      have hg10 := hG.f4 (hpr 4 (by decide)) (hwf.2.1 ja)
      have hw11 := hwf.2.2.1 (σ.1 1 ja)
      refine m_get (ref := "CardPort$Kind") (C := RX4) (T := TX4) (N := 3) (ci := 5) X Y htX7_shop_wsX402 hg10 rfl 0 (by decide) kwX7_shop_2 rfl (v := .int (nI (σ.1 1 ja))) rfl dX7_shop_17 ?_
      refine lv_istore (lv' := [(5, .int (nI (σ.1 1 ja))), (4, .ref (g.1 4 jb)), (3, .ref (g.1 6 ja)), (0, .ref (g.1 7 0)), (1, .int (nI ja)), (2, .int (nI jb))]) hx hb dX7_shop_20 hl (by decide) rfl (fun ls hl => ?_)
      refine lv_aload_n hx hb dX7_shop_22 rfl (lv_at hl 2 rfl) ?_
      refine lv_aload hx hb dX7_shop_23 (lv_at hl 1 rfl) ?_
      refine m_put (ref := "CardPort$Shop") (C := RX6) (T := TX6) (N := 3) (ci := 7) X Y htX7_shop_wsX601 tyX6 tyX6_ok nmX6 hg9 rfl 2 (by decide) kwX7_shop_1 rfl rfl (v := .ref (g.1 4 jb)) rfl rfl (Nat.le_of_ble_eq_true rfl) dX7_shop_25 (fun H locs Y => ?_)
      obtain ⟨M12, eM12⟩ : ∃ zz9 : Mp, zz9 = mu M (g.1 6 ja) (.inr (7, [.int (nI ja), .ref (g.1 0 (ja % 4)), .ref (g.1 4 jb)])) := ⟨_, rfl⟩
      replace Y : mY D A M12 s H locs := by rw [eM12]; exact Y
      have hh13 : M12 (g.1 7 0) = some (.inr (8, [.ref (g.1 8 0), .ref (g.1 8 1), .ref (g.1 8 2), .ref (g.1 8 3), .ref (g.1 9 0), .ref (g.1 9 1), .ref (g.1 9 2), .int (nI (tD σ))])) := by rw [eM12, mu_ne _ _ (hG.ne ⟨hpr 7 (by decide), rfl⟩ ⟨hpr 6 (by decide), hja⟩ (fun zq => absurd zq.1 (by decide)))]; exact hg5
      have hh14 : M12 (g.1 4 (σ.1 1 ja)) = some (.inr (5, [.int (nI (σ.1 1 ja)), .int (nI (σ.1 2 (σ.1 1 ja))), .int (nI (σ.1 3 (σ.1 1 ja)))])) := by rw [eM12, mu_ne _ _ (hG.ne ⟨hpr 4 (by decide), (hwf.2.1 ja)⟩ ⟨hpr 6 (by decide), hja⟩ (fun zq => absurd zq.1 (by decide)))]; exact hg10
      have hh15 : M12 (g.1 6 ja) = some (.inr (7, [.int (nI ja), .ref (g.1 0 (ja % 4)), .ref (g.1 4 jb)])) := by rw [eM12]; exact mu_self _ _ _
      refine lv_iload hx hb dX7_shop_28 (lv_at hl 0 rfl) ?_
      refine vx_ret (m_iret X Y hr hlocks (by decide) (by decide) ?_ dX7_shop_30)
      have hG9 := hG.setKd (hpr 6 (by decide)) hja (v := jb)
      replace hG9 : G pr kc e0 (up2 σ.1 1 ja jb, σ.2) τ th o g M12 := by rw [eM12]; exact hG9
      exact PC_i (by simp only [sp_shop, hva, ix_nI hla, hvb, ix_nI hlb, Bool.and_self, Bool.and_true, Bool.and_false, Bool.false_and, Bool.true_and, Bool.false_eq_true, reduceIte]) (KG.rf g) hG9
theorem kwX7_kind_1 : Cond.fieldLink RX7 79 "CardPort$Kind" "rate" "I" ∈ wsX7_kind := List.mem_of_getElem? (i := 1) rfl
theorem htX7_kind_wsX401 : ∀ w ∈ wsX40, w ∈ wsX7_kind := fun _ h => List.mem_cons_of_mem _ (List.mem_append_left _ (List.mem_append_left _ (List.mem_append_left _ (List.mem_append_right _ h))))
theorem kwX7_kind_2 : Cond.fieldLink RX7 82 "CardPort$Kind" "cap" "I" ∈ wsX7_kind := List.mem_of_getElem? (i := 2) rfl
set_option maxHeartbeats 4000000 in
set_option maxRecDepth 100000 in
theorem c_X7_kind (l : Launch) (hlt : l.stackTraces = false) (D : va_G) (kc : Nat → ClassId) (A : Nat → Prop) (e0 : Nat × Nat) (M : Mp) {pr : Nat → Prop} {σ τ : Sg} {th : Int32} {o : Int64} {g : Gh} {nn : Nat} (hG : G pr kc e0 σ τ th o g M) (hwf : WS nn σ) (hpr : ∀ t, t ≤ 10 → pr t) (a b d : Int32) : vx_Met l yX7_kind wsX7_kind ({ frames := 8, cells := 12, slots := 320, locals := 300 }) (mPre D kc A e0 M [.ref (g.1 7 0), .int a, .int b, .int d]) (va_Qi (PC pr kc e0 τ th o g (sp_kind σ a b d)) (mB D A) A) (mXC D A (xP M [1, 2] (sp_kind σ a b d).1)) 12 320 A := by
  refine vx_ofW (cc := cX7_kind) (maxL := 5) (ret := (some .int)) (by decide) rfl ?_
  intro p e s m args below meth c s₁ B hml htab hv
  obtain ⟨rfl, hw, hK, hA, hcx⟩ := hv
  have X : mX p s m _ c cX7_kind 5 RX7 wsX7_kind D kc := ⟨⟨B.exec, B.bytes, hml, findClass_of_methodNamed B.named, atoms_spec (ws := wsX7_kind) B.pre⟩, hK⟩
  have hx := B.exec
  have hb := B.bytes
  have hr := B.returns
  have hlocks := B.notSynchronized
  have Y : mY D A M s s.heap [] := ⟨hw, va_S.rf⟩
  have hl := lv_entry ([.ref (g.1 7 0), .int a, .int b, .int d]) (n := 5) (Nat.le_of_ble_eq_true rfl)
  rw [lg_entry_eq]
  generalize (lg_sl ([.ref (g.1 7 0), .int a, .int b, .int d]) ++ List.replicate (5 - (lg_sl ([.ref (g.1 7 0), .int a, .int b, .int d])).length) Slot.unset).toArray = ls at hl ⊢
  have hl : lv_has ls 5 [(0, .ref (g.1 7 0)), (1, .int a), (2, .int b), (3, .int d)] := hl
  have hwn := hwf.2.2.2.1
  have hwd := hwf.1
  refine lv_aload_n hx hb dX7_kind_0 rfl (lv_at hl 0 rfl) ?_
  refine lv_iload_n hx hb dX7_kind_1 rfl (lv_at hl 1 rfl) ?_
  cases hva : vI a 3 with
  | false =>
    have hg1 := hG.f7 (hpr 7 (by decide))
    refine m_xVq (As := [.int a]) (rest := []) X Y hA hcx (c_kindAt_bad l hlt D kc A e0 M (g.1 7 0) a (vI_f hva (by decide))) (cwV 1 X.1.2.2.2.2 gX7_kind_X7_kindAt rfl rfl rfl (by decide +kernel) ⟨Nat.le_of_ble_eq_true rfl, Nat.le_of_ble_eq_true rfl⟩) hg1 rfl rfl rfl hl.1 (Nat.le_of_ble_eq_true rfl) dX7_kind_2 ⟨by decide, by decide⟩ htab hlocks (by decide) (by decide) (fun u hu => xP_i (k := 0) (z := 1) (by simp only [sp_kind, hva, Bool.and_self, Bool.and_true, Bool.and_false, Bool.false_and, Bool.true_and, Bool.false_eq_true, reduceIte]) rfl hu) (fun r2 M3 H locs p4 Y => ?_)
    exact p4.elim
  | true =>
    obtain ⟨ja, hja, hla, rfl⟩ := vI_t hva
    have hia := ix_nI hla
    have hg5 := hG.f7 (hpr 7 (by decide))
    refine m_rxVq (As := [.int (nI ja)]) (rest := []) X Y hA hcx (c_kindAt l hlt D kc A e0 M hG hwf hpr ja hja) (cwV 1 X.1.2.2.2.2 gX7_kind_X7_kindAt rfl rfl rfl (by decide +kernel) ⟨Nat.le_of_ble_eq_true rfl, Nat.le_of_ble_eq_true rfl⟩) hg5 rfl rfl rfl hl.1 (Nat.le_of_ble_eq_true rfl) dX7_kind_2 ⟨by decide, by decide⟩ htab hlocks (by decide) (by decide) (fun u h => h.elim) (fun H locs Y => ?_)
    refine lv_astore (lv' := [(4, .ref (g.1 4 ja)), (0, .ref (g.1 7 0)), (1, .int (nI ja)), (2, .int b), (3, .int d)]) hx hb dX7_kind_5 hl (by decide) rfl (fun ls hl => ?_)
    refine lv_iload_n hx hb dX7_kind_7 rfl (lv_at hl 3 rfl) ?_
    refine n_iconst hx hb 0 dX7_kind_8 (by decide) ?_
    refine n_bipush hx hb 100 dX7_kind_9 (by decide) ?_
    cases hrb : rI b 0 100 with
    | false =>
      refine m_xSv (As := [.int b, .int (nI 0), .int (nI 100)]) (rest := []) X Y hA hcx (c_rr_bad l hlt D kc A e0 M b 0 100 (rI_f hrb (by decide) (by decide))) (va_cwS 3 X.1.2.2.2.2 gX7_kind_X7_requireRange rfl rfl rfl (by decide +kernel) ⟨Nat.le_of_ble_eq_true rfl, Nat.le_of_ble_eq_true rfl⟩) rfl rfl hl.1 (Nat.le_of_ble_eq_true rfl) dX7_kind_11 ⟨by decide, by decide⟩ htab hlocks (by decide) (by decide) (fun u hu => xP_i (k := 1) (z := 2) (by simp only [sp_kind, hva, ix_nI hla, hrb, Bool.and_self, Bool.and_true, Bool.and_false, Bool.false_and, Bool.true_and, Bool.false_eq_true, reduceIte]) rfl hu) (fun M6 H locs p7 Y => ?_)
      exact p7.elim
    | true =>
      obtain ⟨jb, hab, hbb, hlb, rfl⟩ := rI_t hrb
      refine m_rxSv (As := [.int (nI jb), .int (nI 0), .int (nI 100)]) (rest := []) X Y hA hcx (c_rr_ok l hlt D kc A e0 M jb 0 100 hab hbb (by decide)) (va_cwS 3 X.1.2.2.2.2 gX7_kind_X7_requireRange rfl rfl rfl (by decide +kernel) ⟨Nat.le_of_ble_eq_true rfl, Nat.le_of_ble_eq_true rfl⟩) rfl rfl hl.1 (Nat.le_of_ble_eq_true rfl) dX7_kind_11 ⟨by decide, by decide⟩ htab hlocks (by decide) (by decide) (fun u h => h.elim) (fun H locs Y => ?_)
      refine lv_iload_n hx hb dX7_kind_14 rfl (lv_at hl 4 rfl) ?_
      refine n_iconst hx hb 0 dX7_kind_15 (by decide) ?_
      refine n_sipush hx hb 9999 dX7_kind_16 (by decide) ?_
      cases hrd : rI d 0 9999 with
      | false =>
        refine m_xSv (As := [.int d, .int (nI 0), .int (nI 9999)]) (rest := []) X Y hA hcx (c_rr_bad l hlt D kc A e0 M d 0 9999 (rI_f hrd (by decide) (by decide))) (va_cwS 3 X.1.2.2.2.2 gX7_kind_X7_requireRange rfl rfl rfl (by decide +kernel) ⟨Nat.le_of_ble_eq_true rfl, Nat.le_of_ble_eq_true rfl⟩) rfl rfl hl.1 (Nat.le_of_ble_eq_true rfl) dX7_kind_19 ⟨by decide, by decide⟩ htab hlocks (by decide) (by decide) (fun u hu => xP_i (k := 1) (z := 2) (by simp only [sp_kind, hva, ix_nI hla, hrb, ix_nI hlb, hrd, Bool.and_self, Bool.and_true, Bool.and_false, Bool.false_and, Bool.true_and, Bool.false_eq_true, reduceIte]) rfl hu) (fun M8 H locs p9 Y => ?_)
        exact p9.elim
      | true =>
        obtain ⟨jd, had, hbd, hld, rfl⟩ := rI_t hrd
        refine m_rxSv (As := [.int (nI jd), .int (nI 0), .int (nI 9999)]) (rest := []) X Y hA hcx (c_rr_ok l hlt D kc A e0 M jd 0 9999 had hbd (by decide)) (va_cwS 3 X.1.2.2.2.2 gX7_kind_X7_requireRange rfl rfl rfl (by decide +kernel) ⟨Nat.le_of_ble_eq_true rfl, Nat.le_of_ble_eq_true rfl⟩) rfl rfl hl.1 (Nat.le_of_ble_eq_true rfl) dX7_kind_19 ⟨by decide, by decide⟩ htab hlocks (by decide) (by decide) (fun u h => h.elim) (fun H locs Y => ?_)
        refine lv_aload hx hb dX7_kind_22 (lv_at hl 0 rfl) ?_
        refine lv_iload_n hx hb dX7_kind_24 rfl (lv_at hl 3 rfl) ?_
        have hg10 := hG.f4 (hpr 4 (by decide)) hja
        have hw11 := hwf.2.2.1 ja
        refine m_put (ref := "CardPort$Kind") (C := RX4) (T := TX4) (N := 3) (ci := 5) X Y htX7_kind_wsX401 tyX4 tyX4_ok nmX4 hg10 rfl 1 (by decide) kwX7_kind_1 rfl rfl (v := .int (nI jb)) rfl rfl (Nat.le_of_ble_eq_true rfl) dX7_kind_25 (fun H locs Y => ?_)
        obtain ⟨M12, eM12⟩ : ∃ zz9 : Mp, zz9 = mu M (g.1 4 ja) (.inr (5, [.int (nI ja), .int (nI jb), .int (nI (σ.1 3 ja))])) := ⟨_, rfl⟩
        replace Y : mY D A M12 s H locs := by rw [eM12]; exact Y
        have hh13 : M12 (g.1 7 0) = some (.inr (8, [.ref (g.1 8 0), .ref (g.1 8 1), .ref (g.1 8 2), .ref (g.1 8 3), .ref (g.1 9 0), .ref (g.1 9 1), .ref (g.1 9 2), .int (nI (tD σ))])) := by rw [eM12, mu_ne _ _ (hG.ne ⟨hpr 7 (by decide), rfl⟩ ⟨hpr 4 (by decide), hja⟩ (fun zq => absurd zq.1 (by decide)))]; exact hg5
        have hh14 : M12 (g.1 4 ja) = some (.inr (5, [.int (nI ja), .int (nI jb), .int (nI (σ.1 3 ja))])) := by rw [eM12]; exact mu_self _ _ _
        refine lv_aload hx hb dX7_kind_28 (lv_at hl 0 rfl) ?_
        refine lv_iload_n hx hb dX7_kind_30 rfl (lv_at hl 4 rfl) ?_
        refine m_put (ref := "CardPort$Kind") (C := RX4) (T := TX4) (N := 3) (ci := 5) X Y htX7_kind_wsX401 tyX4 tyX4_ok nmX4 hh14 rfl 2 (by decide) kwX7_kind_2 rfl rfl (v := .int (nI jd)) rfl rfl (Nat.le_of_ble_eq_true rfl) dX7_kind_31 (fun H locs Y => ?_)
        obtain ⟨M15, eM15⟩ : ∃ zz9 : Mp, zz9 = mu M12 (g.1 4 ja) (.inr (5, [.int (nI ja), .int (nI jb), .int (nI jd)])) := ⟨_, rfl⟩
        replace Y : mY D A M15 s H locs := by rw [eM15]; exact Y
        have hh16 : M15 (g.1 7 0) = some (.inr (8, [.ref (g.1 8 0), .ref (g.1 8 1), .ref (g.1 8 2), .ref (g.1 8 3), .ref (g.1 9 0), .ref (g.1 9 1), .ref (g.1 9 2), .int (nI (tD σ))])) := by rw [eM15, mu_ne _ _ (hG.ne ⟨hpr 7 (by decide), rfl⟩ ⟨hpr 4 (by decide), hja⟩ (fun zq => absurd zq.1 (by decide)))]; exact hh13
        have hh17 : M15 (g.1 4 ja) = some (.inr (5, [.int (nI ja), .int (nI jb), .int (nI jd)])) := by rw [eM15]; exact mu_self _ _ _
        refine lv_aload hx hb dX7_kind_34 (lv_at hl 0 rfl) ?_
        refine n_sipush hx hb 10000 dX7_kind_36 (by decide) ?_
        refine m_rVi (As := [.int (nI 10000)]) (rest := []) X Y hA hcx (c_X4_feeOf l D kc A e0 M15 (g.1 4 ja) jb jd 10000 (nI ja) hh17 (by omega) (by omega)) (cwV 1 X.1.2.2.2.2 gX7_kind_X4_feeOf rfl rfl rfl (by decide +kernel) ⟨Nat.le_of_ble_eq_true rfl, Nat.le_of_ble_eq_true rfl⟩) hh17 rfl rfl rfl hl.1 (Nat.le_of_ble_eq_true rfl) dX7_kind_39 ⟨by decide, by decide⟩ (fun H locs Y => ?_)
        refine vx_ret (m_iret X Y hr hlocks (by decide) (by decide) ?_ dX7_kind_42)
        have hG9 := hG.setKn (hpr 4 (by decide)) hja (v := jb) (w := jd)
        replace hG9 : G pr kc e0 (up2 (up2 σ.1 2 ja jb) 3 ja jd, σ.2) τ th o g M15 := by rw [eM15, eM12, mu_mu]; exact hG9
        exact PC_i (by simp only [sp_kind, hva, ix_nI hla, hrb, ix_nI hlb, hrd, ix_nI hld, Bool.and_self, Bool.and_true, Bool.and_false, Bool.false_and, Bool.true_and, Bool.false_eq_true, reduceIte]) (KG.rf g) hG9
theorem kwX7_cancel_1 : Cond.fieldLink RX7 46 "CardPort" "day" "I" ∈ wsX7_cancel := List.mem_of_getElem? (i := 1) rfl
theorem htX7_cancel_wsX701 : ∀ w ∈ wsX70, w ∈ wsX7_cancel := fun _ h => List.mem_cons_of_mem _ (List.mem_append_left _ (List.mem_append_left _ (List.mem_append_left _ (List.mem_append_left _ (List.mem_append_right _ h)))))
theorem kwX7_cancel_2 : Cond.fieldLink RX7 159 "CardPort$Payment" "isVoid" "Z" ∈ wsX7_cancel := List.mem_of_getElem? (i := 2) rfl
theorem htX7_cancel_wsX502 : ∀ w ∈ wsX50, w ∈ wsX7_cancel := fun _ h => List.mem_cons_of_mem _ (List.mem_append_left _ (List.mem_append_left _ (List.mem_append_left _ (List.mem_append_right _ h))))
set_option maxHeartbeats 4000000 in
set_option maxRecDepth 100000 in
theorem c_X7_cancel (l : Launch) (hlt : l.stackTraces = false) (D : va_G) (kc : Nat → ClassId) (A : Nat → Prop) (e0 : Nat × Nat) (M : Mp) {pr : Nat → Prop} {σ τ : Sg} {th : Int32} {o : Int64} {g : Gh} {nn : Nat} (hG : G pr kc e0 σ τ th o g M) (hwf : WS nn σ) (hpr : ∀ t, t ≤ 10 → pr t) (a : Int32) : vx_Met l yX7_cancel wsX7_cancel ({ frames := 8, cells := 12, slots := 320, locals := 300 }) (mPre D kc A e0 M [.ref (g.1 7 0), .int a]) (va_Qi (PC pr kc e0 τ th o g (sp_cancel σ a)) (mB D A) A) (mXC D A (xP M [1, 3] (sp_cancel σ a).1)) 12 320 A := by
  refine vx_ofW (cc := cX7_cancel) (maxL := 3) (ret := (some .int)) (by decide) rfl ?_
  intro p e s m args below meth c s₁ B hml htab hv
  obtain ⟨rfl, hw, hK, hA, hcx⟩ := hv
  have X : mX p s m _ c cX7_cancel 3 RX7 wsX7_cancel D kc := ⟨⟨B.exec, B.bytes, hml, findClass_of_methodNamed B.named, atoms_spec (ws := wsX7_cancel) B.pre⟩, hK⟩
  have hx := B.exec
  have hb := B.bytes
  have hr := B.returns
  have hlocks := B.notSynchronized
  have Y : mY D A M s s.heap [] := ⟨hw, va_S.rf⟩
  have hl := lv_entry ([.ref (g.1 7 0), .int a]) (n := 3) (Nat.le_of_ble_eq_true rfl)
  rw [lg_entry_eq]
  generalize (lg_sl ([.ref (g.1 7 0), .int a]) ++ List.replicate (3 - (lg_sl ([.ref (g.1 7 0), .int a])).length) Slot.unset).toArray = ls at hl ⊢
  have hl : lv_has ls 3 [(0, .ref (g.1 7 0)), (1, .int a)] := hl
  have hwn := hwf.2.2.2.1
  have hwd := hwf.1
  refine lv_aload_n hx hb dX7_cancel_0 rfl (lv_at hl 0 rfl) ?_
  refine lv_iload_n hx hb dX7_cancel_1 rfl (lv_at hl 1 rfl) ?_
  cases hva : vI a (nP σ) with
  | false =>
    have hg1 := hG.f7 (hpr 7 (by decide))
    refine m_xVq (As := [.int a]) (rest := []) X Y hA hcx (c_paymentAt_bad l hlt D kc A e0 M hG hwf hpr a (vI_f hva (by omega))) (cwV 1 X.1.2.2.2.2 gX7_cancel_X7_paymentAt rfl rfl rfl (by decide +kernel) ⟨Nat.le_of_ble_eq_true rfl, Nat.le_of_ble_eq_true rfl⟩) hg1 rfl rfl rfl hl.1 (Nat.le_of_ble_eq_true rfl) dX7_cancel_2 ⟨by decide, by decide⟩ htab hlocks (by decide) (by decide) (fun u hu => xP_i (k := 0) (z := 1) (by simp only [sp_cancel, hva, Bool.and_self, Bool.and_true, Bool.and_false, Bool.false_and, Bool.true_and, Bool.false_eq_true, reduceIte]) rfl hu) (fun r2 M3 H locs p4 Y => ?_)
    exact p4.elim
  | true =>
    obtain ⟨ja, hja, hla, rfl⟩ := vI_t hva
    have hia := ix_nI hla
    have hg5 := hG.f7 (hpr 7 (by decide))
    refine m_rxVq (As := [.int (nI ja)]) (rest := []) X Y hA hcx (c_paymentAt l hlt D kc A e0 M hG hwf hpr ja hja) (cwV 1 X.1.2.2.2.2 gX7_cancel_X7_paymentAt rfl rfl rfl (by decide +kernel) ⟨Nat.le_of_ble_eq_true rfl, Nat.le_of_ble_eq_true rfl⟩) hg5 rfl rfl rfl hl.1 (Nat.le_of_ble_eq_true rfl) dX7_cancel_2 ⟨by decide, by decide⟩ htab hlocks (by decide) (by decide) (fun u h => h.elim) (fun H locs Y => ?_)
    refine lv_astore_n (lv' := [(2, .ref (g.1 5 ja)), (0, .ref (g.1 7 0)), (1, .int (nI ja))]) hx hb dX7_cancel_5 rfl hl (by decide) rfl (fun ls hl => ?_)
    refine lv_aload_n hx hb dX7_cancel_6 rfl (lv_at hl 0 rfl) ?_
    refine lv_aload_n hx hb dX7_cancel_7 rfl (lv_at hl 1 rfl) ?_
    refine m_get (ref := "CardPort") (C := RX7) (T := TX7) (N := 8) (ci := 8) X Y htX7_cancel_wsX701 hg5 rfl 7 (by decide) kwX7_cancel_1 rfl (v := .int (nI (tD σ))) rfl dX7_cancel_8 ?_
    have hg6 := hG.f5 (hpr 5 (by decide)) hja
    have hw7 := hwf.2.2.2.2.1 _ hja
    refine m_rVi (As := [.int (nI (tD σ))]) (rest := []) X Y hA hcx (c_X5_isAlive l D kc A e0 M (g.1 5 ja) (g.1 2 (σ.1 5 ja)) (g.1 6 (σ.1 6 ja)) (σ.1 7 ja) (σ.1 9 ja) (σ.1 8 ja) (σ.1 10 ja) (nI ja) (tD σ) hg6 (by omega) (by omega) (by omega)) (cwV 1 X.1.2.2.2.2 gX7_cancel_X5_isAlive rfl rfl rfl (by decide +kernel) ⟨Nat.le_of_ble_eq_true rfl, Nat.le_of_ble_eq_true rfl⟩) hg6 rfl rfl rfl hl.1 (Nat.le_of_ble_eq_true rfl) dX7_cancel_11 ⟨by decide, by decide⟩ (fun H locs Y => ?_)
    by_cases hal : σ.1 10 ja = 0 ∧ tD σ ≤ σ.1 9 ja
    · refine n_top (bN_t hal) ?_
      refine m_rxSv (As := [.int (nI 1)]) (rest := []) X Y hA hcx (c_rp_ok l hlt D kc A e0 M ) (va_cwS 1 X.1.2.2.2.2 gX7_cancel_X7_requirePossible rfl rfl rfl (by decide +kernel) ⟨Nat.le_of_ble_eq_true rfl, Nat.le_of_ble_eq_true rfl⟩) rfl rfl hl.1 (Nat.le_of_ble_eq_true rfl) dX7_cancel_14 ⟨by decide, by decide⟩ htab hlocks (by decide) (by decide) (fun u h => h.elim) (fun H locs Y => ?_)
      refine lv_aload_n hx hb dX7_cancel_17 rfl (lv_at hl 0 rfl) ?_
      refine n_iconst hx hb 1 dX7_cancel_18 (by decide) ?_
      refine m_put (ref := "CardPort$Payment") (C := RX5) (T := TX5) (N := 7) (ci := 6) X Y htX7_cancel_wsX502 tyX5 tyX5_ok nmX5 hg6 rfl 6 (by decide) kwX7_cancel_2 rfl rfl (v := .int (nI 1)) rfl rfl (Nat.le_of_ble_eq_true rfl) dX7_cancel_19 (fun H locs Y => ?_)
      obtain ⟨M8, eM8⟩ : ∃ zz9 : Mp, zz9 = mu M (g.1 5 ja) (.inr (6, [.int (nI ja), .ref (g.1 2 (σ.1 5 ja)), .ref (g.1 6 (σ.1 6 ja)), .int (nI (σ.1 7 ja)), .int (nI (σ.1 9 ja)), .int (nI (σ.1 8 ja)), .int (nI 1)])) := ⟨_, rfl⟩
      replace Y : mY D A M8 s H locs := by rw [eM8]; exact Y
      have hh9 : M8 (g.1 7 0) = some (.inr (8, [.ref (g.1 8 0), .ref (g.1 8 1), .ref (g.1 8 2), .ref (g.1 8 3), .ref (g.1 9 0), .ref (g.1 9 1), .ref (g.1 9 2), .int (nI (tD σ))])) := by rw [eM8, mu_ne _ _ (hG.ne ⟨hpr 7 (by decide), rfl⟩ ⟨hpr 5 (by decide), hja⟩ (fun zq => absurd zq.1 (by decide)))]; exact hg5
      have hh10 : M8 (g.1 5 ja) = some (.inr (6, [.int (nI ja), .ref (g.1 2 (σ.1 5 ja)), .ref (g.1 6 (σ.1 6 ja)), .int (nI (σ.1 7 ja)), .int (nI (σ.1 9 ja)), .int (nI (σ.1 8 ja)), .int (nI 1)])) := by rw [eM8]; exact mu_self _ _ _
      refine lv_aload_n hx hb dX7_cancel_22 rfl (lv_at hl 0 rfl) ?_
      refine m_rVi (As := []) (rest := []) X Y hA hcx (c_X5_left l D kc A e0 M8 (g.1 5 ja) (g.1 2 (σ.1 5 ja)) (g.1 6 (σ.1 6 ja)) (σ.1 7 ja) (σ.1 9 ja) (σ.1 8 ja) 1 (nI ja) hh10 (by omega)) (cwV 0 X.1.2.2.2.2 gX7_cancel_X5_left rfl rfl rfl (by decide +kernel) ⟨Nat.le_of_ble_eq_true rfl, Nat.le_of_ble_eq_true rfl⟩) hh10 rfl rfl rfl hl.1 (Nat.le_of_ble_eq_true rfl) dX7_cancel_23 ⟨by decide, by decide⟩ (fun H locs Y => ?_)
      refine vx_ret (m_iret X Y hr hlocks (by decide) (by decide) ?_ dX7_cancel_26)
      have hG9 := hG.setPv (hpr 5 (by decide)) hja (v := 1)
      replace hG9 : G pr kc e0 (up2 σ.1 10 ja 1, σ.2) τ th o g M8 := by rw [eM8]; exact hG9
      exact PC_i (by simp only [sp_cancel, hva, ix_nI hla, Bool.and_self, Bool.and_true, Bool.and_false, Bool.false_and, Bool.true_and, Bool.false_eq_true, reduceIte]; rw [if_pos hal]) (KG.rf g) hG9
    · refine n_top (bN_f hal) ?_
      refine m_xSv (As := [.int (nI 0)]) (rest := []) X Y hA hcx (c_rp_bad l hlt D kc A e0 M ) (va_cwS 1 X.1.2.2.2.2 gX7_cancel_X7_requirePossible rfl rfl rfl (by decide +kernel) ⟨Nat.le_of_ble_eq_true rfl, Nat.le_of_ble_eq_true rfl⟩) rfl rfl hl.1 (Nat.le_of_ble_eq_true rfl) dX7_cancel_14 ⟨by decide, by decide⟩ htab hlocks (by decide) (by decide) (fun u hu => xP_i (k := 1) (z := 3) (by simp only [sp_cancel, hva, ix_nI hla, Bool.and_self, Bool.and_true, Bool.and_false, Bool.false_and, Bool.true_and, Bool.false_eq_true, reduceIte]; rw [if_neg hal]) rfl hu) (fun M11 H locs p12 Y => ?_)
      exact p12.elim
theorem nI_le0 {x : Nat} (h : x < 2147483648) : nI x ≤ 0 ↔ x = 0 := by
  rw [Int32.le_iff_toInt_le, nI_tI h, show (0 : Int32).toInt = 0 from rfl]; omega
theorem pof5 (σ : Sg) (j : Nat) : pofN σ j 5 = bN ((σ.1 10 j = 0 ∧ tD σ ≤ σ.1 9 j) ∧ σ.1 8 j < σ.1 7 j) := rfl
theorem kwX7_paymentOf_1 : Cond.classLink RX7 213 "java/lang/IllegalArgumentException" ∈ wsX7_paymentOf := List.mem_of_getElem? (i := 1) rfl
theorem kwX7_paymentOf_2 : Cond.initialized "java/lang/IllegalArgumentException" ∈ wsX7_paymentOf := List.mem_of_getElem? (i := 2) rfl
theorem htX7_paymentOf_vx_atSRX7217ja6 : ∀ w ∈ (vx_atS RX7 217 "java/lang/IllegalArgumentException" ["java/lang/RuntimeException", "java/lang/Exception"]).filter goodWord, w ∈ wsX7_paymentOf := fun _ h => List.mem_cons_of_mem _ (List.mem_append_left _ (List.mem_append_right _ h))
theorem kwX7_paymentOf_3 : Cond.fieldLink RX7 205 "CardPort$Payment" "card" "LCardPort$Card;" ∈ wsX7_paymentOf := List.mem_of_getElem? (i := 3) rfl
theorem htX7_paymentOf_wsX501 : ∀ w ∈ wsX50, w ∈ wsX7_paymentOf := fun _ h => List.mem_cons_of_mem _ (List.mem_append_left _ (List.mem_append_left _ (List.mem_append_left _ (List.mem_append_left _ (List.mem_append_left _ (List.mem_append_left _ (List.mem_append_right _ h)))))))
theorem kwX7_paymentOf_4 : Cond.fieldLink RX7 209 "CardPort$Card" "number" "I" ∈ wsX7_paymentOf := List.mem_of_getElem? (i := 4) rfl
theorem htX7_paymentOf_wsX202 : ∀ w ∈ wsX20, w ∈ wsX7_paymentOf := fun _ h => List.mem_cons_of_mem _ (List.mem_append_left _ (List.mem_append_left _ (List.mem_append_left _ (List.mem_append_left _ (List.mem_append_left _ (List.mem_append_right _ h))))))
theorem kwX7_paymentOf_5 : Cond.fieldLink RX7 131 "CardPort$Payment" "shop" "LCardPort$Shop;" ∈ wsX7_paymentOf := List.mem_of_getElem? (i := 5) rfl
theorem kwX7_paymentOf_6 : Cond.fieldLink RX7 210 "CardPort$Shop" "number" "I" ∈ wsX7_paymentOf := List.mem_of_getElem? (i := 6) rfl
theorem htX7_paymentOf_wsX603 : ∀ w ∈ wsX60, w ∈ wsX7_paymentOf := fun _ h => List.mem_cons_of_mem _ (List.mem_append_left _ (List.mem_append_left _ (List.mem_append_left _ (List.mem_append_left _ (List.mem_append_right _ h)))))
theorem kwX7_paymentOf_7 : Cond.fieldLink RX7 211 "CardPort$Payment" "amount" "I" ∈ wsX7_paymentOf := List.mem_of_getElem? (i := 7) rfl
theorem kwX7_paymentOf_8 : Cond.fieldLink RX7 138 "CardPort$Payment" "captured" "I" ∈ wsX7_paymentOf := List.mem_of_getElem? (i := 8) rfl
theorem kwX7_paymentOf_9 : Cond.fieldLink RX7 212 "CardPort$Payment" "lastDay" "I" ∈ wsX7_paymentOf := List.mem_of_getElem? (i := 9) rfl
theorem kwX7_paymentOf_10 : Cond.fieldLink RX7 46 "CardPort" "day" "I" ∈ wsX7_paymentOf := List.mem_of_getElem? (i := 10) rfl
theorem htX7_paymentOf_wsX704 : ∀ w ∈ wsX70, w ∈ wsX7_paymentOf := fun _ h => List.mem_cons_of_mem _ (List.mem_append_left _ (List.mem_append_left _ (List.mem_append_left _ (List.mem_append_right _ h))))
set_option maxHeartbeats 4000000 in
set_option maxRecDepth 100000 in
theorem c_X7_paymentOf (l : Launch) (hlt : l.stackTraces = false) (D : va_G) (kc : Nat → ClassId) (A : Nat → Prop) (e0 : Nat × Nat) (M : Mp) {pr : Nat → Prop} {σ τ : Sg} {th : Int32} {o : Int64} {g : Gh} {nn : Nat} (hG : G pr kc e0 σ τ th o g M) (hwf : WS nn σ) (hpr : ∀ t, t ≤ 10 → pr t) (a b : Int32) : vx_Met l yX7_paymentOf wsX7_paymentOf ({ frames := 8, cells := 12, slots := 320, locals := 300 }) (mPre D kc A e0 M [.ref (g.1 7 0), .int a, .int b]) (va_Qi (PC pr kc e0 τ th o g (sp_paymentOf σ a b)) (mB D A) A) (mXC D A (xP M [1, 2] (sp_paymentOf σ a b).1)) 12 320 A := by
  refine vx_ofW (cc := cX7_paymentOf) (maxL := 4) (ret := (some .int)) (by decide) rfl ?_
  intro p e s m args below meth c s₁ B hml htab hv
  obtain ⟨rfl, hw, hK, hA, hcx⟩ := hv
  have X : mX p s m _ c cX7_paymentOf 4 RX7 wsX7_paymentOf D kc := ⟨⟨B.exec, B.bytes, hml, findClass_of_methodNamed B.named, atoms_spec (ws := wsX7_paymentOf) B.pre⟩, hK⟩
  have hx := B.exec
  have hb := B.bytes
  have hr := B.returns
  have hlocks := B.notSynchronized
  have Y : mY D A M s s.heap [] := ⟨hw, va_S.rf⟩
  have hl := lv_entry ([.ref (g.1 7 0), .int a, .int b]) (n := 4) (Nat.le_of_ble_eq_true rfl)
  rw [lg_entry_eq]
  generalize (lg_sl ([.ref (g.1 7 0), .int a, .int b]) ++ List.replicate (4 - (lg_sl ([.ref (g.1 7 0), .int a, .int b])).length) Slot.unset).toArray = ls at hl ⊢
  have hl : lv_has ls 4 [(0, .ref (g.1 7 0)), (1, .int a), (2, .int b)] := hl
  have hwn := hwf.2.2.2.1
  have hwd := hwf.1
  refine lv_aload_n hx hb dX7_paymentOf_0 rfl (lv_at hl 0 rfl) ?_
  refine lv_iload_n hx hb dX7_paymentOf_1 rfl (lv_at hl 1 rfl) ?_
  cases hva : vI a (nP σ) with
  | false =>
    have hg1 := hG.f7 (hpr 7 (by decide))
    refine m_xVq (As := [.int a]) (rest := []) X Y hA hcx (c_paymentAt_bad l hlt D kc A e0 M hG hwf hpr a (vI_f hva (by omega))) (cwV 1 X.1.2.2.2.2 gX7_paymentOf_X7_paymentAt rfl rfl rfl (by decide +kernel) ⟨Nat.le_of_ble_eq_true rfl, Nat.le_of_ble_eq_true rfl⟩) hg1 rfl rfl rfl hl.1 (Nat.le_of_ble_eq_true rfl) dX7_paymentOf_2 ⟨by decide, by decide⟩ htab hlocks (by decide) (by decide) (fun u hu => xP_i (k := 0) (z := 1) (by simp only [sp_paymentOf, hva, Bool.and_self, Bool.and_true, Bool.and_false, Bool.false_and, Bool.true_and, Bool.false_eq_true, reduceIte]) rfl hu) (fun r2 M3 H locs p4 Y => ?_)
    exact p4.elim
  | true =>
    obtain ⟨ja, hja, hla, rfl⟩ := vI_t hva
    have hia := ix_nI hla
    have hg5 := hG.f7 (hpr 7 (by decide))
    refine m_rxVq (As := [.int (nI ja)]) (rest := []) X Y hA hcx (c_paymentAt l hlt D kc A e0 M hG hwf hpr ja hja) (cwV 1 X.1.2.2.2.2 gX7_paymentOf_X7_paymentAt rfl rfl rfl (by decide +kernel) ⟨Nat.le_of_ble_eq_true rfl, Nat.le_of_ble_eq_true rfl⟩) hg5 rfl rfl rfl hl.1 (Nat.le_of_ble_eq_true rfl) dX7_paymentOf_2 ⟨by decide, by decide⟩ htab hlocks (by decide) (by decide) (fun u h => h.elim) (fun H locs Y => ?_)
    refine lv_astore_n (lv' := [(3, .ref (g.1 5 ja)), (0, .ref (g.1 7 0)), (1, .int (nI ja)), (2, .int b)]) hx hb dX7_paymentOf_5 rfl hl (by decide) rfl (fun ls hl => ?_)
    refine lv_iload_n hx hb dX7_paymentOf_6 rfl (lv_at hl 3 rfl) ?_
    cases hvb : vI b 6 with
    | false =>
      refine lv_tableOut (tgt := 99) hx hb dX7_paymentOf_7 (by have zq := vI_out hvb; omega) (by decide) ?_
      exact m_throw X Y hcx hlt htab hlocks hl.1 2 (is := 215) (text := "what is out of range") (by decide) th_fit.2.1 th_good2 th_ng2 (by decide) kwX7_paymentOf_1 kwX7_paymentOf_2 htX7_paymentOf_vx_atSRX7217ja6 dX7_paymentOf_99 dX7_paymentOf_102 dX7_paymentOf_103 dX7_paymentOf_105 dX7_paymentOf_108 (by decide) (Nat.le_of_ble_eq_true rfl) (by decide) (by decide) (by decide) (by decide) (xP_i (k := 1) (z := 2) (by simp only [sp_paymentOf, hva, ix_nI hla, hvb, Bool.and_self, Bool.and_true, Bool.and_false, Bool.false_and, Bool.true_and, Bool.false_eq_true, reduceIte]) rfl rfl)
    | true =>
      obtain ⟨jb, hjb, hlb, rfl⟩ := vI_t hvb
      rcases (show jb = 0 ∨ jb = 1 ∨ jb = 2 ∨ jb = 3 ∨ jb = 4 ∨ jb = 5 by omega) with rfl | rfl | rfl | rfl | rfl | rfl
      · refine lv_tableIn (tgt := 44) hx hb dX7_paymentOf_7 (by decide) (by decide) (off := 37) rfl (by decide) ?_
        refine lv_aload_n hx hb dX7_paymentOf_44 rfl (lv_at hl 0 rfl) ?_
        have hg6 := hG.f5 (hpr 5 (by decide)) hja
        have hw7 := hwf.2.2.2.2.1 _ hja
        refine m_get (ref := "CardPort$Payment") (C := RX5) (T := TX5) (N := 7) (ci := 6) X Y htX7_paymentOf_wsX501 hg6 rfl 1 (by decide) kwX7_paymentOf_3 rfl (v := .ref (g.1 2 (σ.1 5 ja))) rfl dX7_paymentOf_45 ?_
        have hg8 := hG.f2 (hpr 2 (by decide)) (hwf.2.2.2.2.1 _ hja).1
        refine m_get (ref := "CardPort$Card") (C := RX2) (T := TX2) (N := 2) (ci := 3) X Y htX7_paymentOf_wsX202 hg8 rfl 0 (by decide) kwX7_paymentOf_4 rfl (v := .int (nI (σ.1 5 ja))) rfl dX7_paymentOf_48 ?_
        refine vx_ret (m_iret X Y hr hlocks (by decide) (by decide) ?_ dX7_paymentOf_51)
        exact PC_i (by simp only [sp_paymentOf, hva, ix_nI hla, hvb, ix_nI hlb, Bool.and_self, Bool.and_true, Bool.and_false, Bool.false_and, Bool.true_and, Bool.false_eq_true, reduceIte]; rfl) (KG.rf g) hG
      · refine lv_tableIn (tgt := 52) hx hb dX7_paymentOf_7 (by decide) (by decide) (off := 45) rfl (by decide) ?_
        refine lv_aload_n hx hb dX7_paymentOf_52 rfl (lv_at hl 0 rfl) ?_
        have hg9 := hG.f5 (hpr 5 (by decide)) hja
        have hw10 := hwf.2.2.2.2.1 _ hja
        refine m_get (ref := "CardPort$Payment") (C := RX5) (T := TX5) (N := 7) (ci := 6) X Y htX7_paymentOf_wsX501 hg9 rfl 2 (by decide) kwX7_paymentOf_5 rfl (v := .ref (g.1 6 (σ.1 6 ja))) rfl dX7_paymentOf_53 ?_
        have hg11 := hG.f6 (hpr 6 (by decide)) (hwf.2.2.2.2.1 _ hja).2.1
        refine m_get (ref := "CardPort$Shop") (C := RX6) (T := TX6) (N := 3) (ci := 7) X Y htX7_paymentOf_wsX603 hg11 rfl 0 (by decide) kwX7_paymentOf_6 rfl (v := .int (nI (σ.1 6 ja))) rfl dX7_paymentOf_56 ?_
        refine vx_ret (m_iret X Y hr hlocks (by decide) (by decide) ?_ dX7_paymentOf_59)
        exact PC_i (by simp only [sp_paymentOf, hva, ix_nI hla, hvb, ix_nI hlb, Bool.and_self, Bool.and_true, Bool.and_false, Bool.false_and, Bool.true_and, Bool.false_eq_true, reduceIte]; rfl) (KG.rf g) hG
      · refine lv_tableIn (tgt := 60) hx hb dX7_paymentOf_7 (by decide) (by decide) (off := 53) rfl (by decide) ?_
        refine lv_aload_n hx hb dX7_paymentOf_60 rfl (lv_at hl 0 rfl) ?_
        have hg12 := hG.f5 (hpr 5 (by decide)) hja
        have hw13 := hwf.2.2.2.2.1 _ hja
        refine m_get (ref := "CardPort$Payment") (C := RX5) (T := TX5) (N := 7) (ci := 6) X Y htX7_paymentOf_wsX501 hg12 rfl 3 (by decide) kwX7_paymentOf_7 rfl (v := .int (nI (σ.1 7 ja))) rfl dX7_paymentOf_61 ?_
        refine vx_ret (m_iret X Y hr hlocks (by decide) (by decide) ?_ dX7_paymentOf_64)
        exact PC_i (by simp only [sp_paymentOf, hva, ix_nI hla, hvb, ix_nI hlb, Bool.and_self, Bool.and_true, Bool.and_false, Bool.false_and, Bool.true_and, Bool.false_eq_true, reduceIte]; rfl) (KG.rf g) hG
      · refine lv_tableIn (tgt := 65) hx hb dX7_paymentOf_7 (by decide) (by decide) (off := 58) rfl (by decide) ?_
        refine lv_aload_n hx hb dX7_paymentOf_65 rfl (lv_at hl 0 rfl) ?_
        have hg14 := hG.f5 (hpr 5 (by decide)) hja
        have hw15 := hwf.2.2.2.2.1 _ hja
        refine m_get (ref := "CardPort$Payment") (C := RX5) (T := TX5) (N := 7) (ci := 6) X Y htX7_paymentOf_wsX501 hg14 rfl 5 (by decide) kwX7_paymentOf_8 rfl (v := .int (nI (σ.1 8 ja))) rfl dX7_paymentOf_66 ?_
        refine vx_ret (m_iret X Y hr hlocks (by decide) (by decide) ?_ dX7_paymentOf_69)
        exact PC_i (by simp only [sp_paymentOf, hva, ix_nI hla, hvb, ix_nI hlb, Bool.and_self, Bool.and_true, Bool.and_false, Bool.false_and, Bool.true_and, Bool.false_eq_true, reduceIte]; rfl) (KG.rf g) hG
      · refine lv_tableIn (tgt := 70) hx hb dX7_paymentOf_7 (by decide) (by decide) (off := 63) rfl (by decide) ?_
        refine lv_aload_n hx hb dX7_paymentOf_70 rfl (lv_at hl 0 rfl) ?_
        have hg16 := hG.f5 (hpr 5 (by decide)) hja
        have hw17 := hwf.2.2.2.2.1 _ hja
        refine m_get (ref := "CardPort$Payment") (C := RX5) (T := TX5) (N := 7) (ci := 6) X Y htX7_paymentOf_wsX501 hg16 rfl 4 (by decide) kwX7_paymentOf_9 rfl (v := .int (nI (σ.1 9 ja))) rfl dX7_paymentOf_71 ?_
        refine vx_ret (m_iret X Y hr hlocks (by decide) (by decide) ?_ dX7_paymentOf_74)
        exact PC_i (by simp only [sp_paymentOf, hva, ix_nI hla, hvb, ix_nI hlb, Bool.and_self, Bool.and_true, Bool.and_false, Bool.false_and, Bool.true_and, Bool.false_eq_true, reduceIte]; rfl) (KG.rf g) hG
      · refine lv_tableIn (tgt := 75) hx hb dX7_paymentOf_7 (by decide) (by decide) (off := 68) rfl (by decide) ?_
        refine lv_aload_n hx hb dX7_paymentOf_75 rfl (lv_at hl 0 rfl) ?_
        refine lv_aload_n hx hb dX7_paymentOf_76 rfl (lv_at hl 1 rfl) ?_
        refine m_get (ref := "CardPort") (C := RX7) (T := TX7) (N := 8) (ci := 8) X Y htX7_paymentOf_wsX704 hg5 rfl 7 (by decide) kwX7_paymentOf_10 rfl (v := .int (nI (tD σ))) rfl dX7_paymentOf_77 ?_
        have hg18 := hG.f5 (hpr 5 (by decide)) hja
        have hw19 := hwf.2.2.2.2.1 _ hja
        refine m_rVi (As := [.int (nI (tD σ))]) (rest := []) X Y hA hcx (c_X5_isAlive l D kc A e0 M (g.1 5 ja) (g.1 2 (σ.1 5 ja)) (g.1 6 (σ.1 6 ja)) (σ.1 7 ja) (σ.1 9 ja) (σ.1 8 ja) (σ.1 10 ja) (nI ja) (tD σ) hg18 (by omega) (by omega) (by omega)) (cwV 1 X.1.2.2.2.2 gX7_paymentOf_X5_isAlive rfl rfl rfl (by decide +kernel) ⟨Nat.le_of_ble_eq_true rfl, Nat.le_of_ble_eq_true rfl⟩) hg18 rfl rfl rfl hl.1 (Nat.le_of_ble_eq_true rfl) dX7_paymentOf_80 ⟨by decide, by decide⟩ (fun H locs Y => ?_)
        by_cases hal : σ.1 10 ja = 0 ∧ tD σ ≤ σ.1 9 ja
        · refine n_top (bN_t hal) ?_
          refine n_if_eq hx hb 97 (by omega) dX7_paymentOf_83 (by decide) (fun zq => absurd zq (by decide)) (fun _ => ?_)
          refine lv_aload_n hx hb dX7_paymentOf_86 rfl (lv_at hl 0 rfl) ?_
          refine m_rVi (As := []) (rest := []) X Y hA hcx (c_X5_left l D kc A e0 M (g.1 5 ja) (g.1 2 (σ.1 5 ja)) (g.1 6 (σ.1 6 ja)) (σ.1 7 ja) (σ.1 9 ja) (σ.1 8 ja) (σ.1 10 ja) (nI ja) hg18 (by omega)) (cwV 0 X.1.2.2.2.2 gX7_paymentOf_X5_left rfl rfl rfl (by decide +kernel) ⟨Nat.le_of_ble_eq_true rfl, Nat.le_of_ble_eq_true rfl⟩) hg18 rfl rfl rfl hl.1 (Nat.le_of_ble_eq_true rfl) dX7_paymentOf_87 ⟨by decide, by decide⟩ (fun H locs Y => ?_)
          refine lv_if_le (tgt := 97) hx hb dX7_paymentOf_90 (by decide) (fun c90 => ?_) (fun c90 => ?_)
          · refine n_iconst hx hb 0 dX7_paymentOf_97 (by decide) ?_
            refine vx_ret (m_iret X Y hr hlocks (by decide) (by decide) ?_ dX7_paymentOf_98)
            exact PC_i (by simp only [sp_paymentOf, hva, ix_nI hla, hvb, ix_nI hlb, Bool.and_self, Bool.and_true, Bool.and_false, Bool.false_and, Bool.true_and, Bool.false_eq_true, reduceIte]; rw [pof5]; rw [bN_f (by rw [nI_le0 (show σ.1 7 ja - σ.1 8 ja < 2147483648 by omega)] at c90; omega)]) (KG.rf g) hG
          · refine n_iconst hx hb 1 dX7_paymentOf_93 (by decide) ?_
            refine lv_goto (tgt := 98) hx hb dX7_paymentOf_94 (by decide) ?_
            refine vx_ret (m_iret X Y hr hlocks (by decide) (by decide) ?_ dX7_paymentOf_98)
            exact PC_i (by simp only [sp_paymentOf, hva, ix_nI hla, hvb, ix_nI hlb, Bool.and_self, Bool.and_true, Bool.and_false, Bool.false_and, Bool.true_and, Bool.false_eq_true, reduceIte]; rw [pof5]; rw [bN_t (by rw [nI_le0 (show σ.1 7 ja - σ.1 8 ja < 2147483648 by omega)] at c90; omega)]) (KG.rf g) hG
        · refine n_top (bN_f hal) ?_
          refine n_if_eq hx hb 97 (by omega) dX7_paymentOf_83 (by decide) (fun _ => ?_) (fun zq => absurd zq (by decide))
          refine n_iconst hx hb 0 dX7_paymentOf_97 (by decide) ?_
          refine vx_ret (m_iret X Y hr hlocks (by decide) (by decide) ?_ dX7_paymentOf_98)
          exact PC_i (by simp only [sp_paymentOf, hva, ix_nI hla, hvb, ix_nI hlb, Bool.and_self, Bool.and_true, Bool.and_false, Bool.false_and, Bool.true_and, Bool.false_eq_true, reduceIte]; rw [pof5]; rw [bN_f (by omega)]) (KG.rf g) hG
theorem kwX7_captureOf_1 : Cond.classLink RX7 213 "java/lang/IllegalArgumentException" ∈ wsX7_captureOf := List.mem_of_getElem? (i := 1) rfl
theorem kwX7_captureOf_2 : Cond.initialized "java/lang/IllegalArgumentException" ∈ wsX7_captureOf := List.mem_of_getElem? (i := 2) rfl
theorem htX7_captureOf_vx_atSRX7217ja6 : ∀ w ∈ (vx_atS RX7 217 "java/lang/IllegalArgumentException" ["java/lang/RuntimeException", "java/lang/Exception"]).filter goodWord, w ∈ wsX7_captureOf := fun _ h => List.mem_cons_of_mem _ (List.mem_append_left _ (List.mem_append_right _ h))
theorem kwX7_captureOf_3 : Cond.fieldLink RX7 220 "CardPort$Capture" "payment" "LCardPort$Payment;" ∈ wsX7_captureOf := List.mem_of_getElem? (i := 3) rfl
theorem htX7_captureOf_wsX101 : ∀ w ∈ wsX10, w ∈ wsX7_captureOf := fun _ h => List.mem_cons_of_mem _ (List.mem_append_left _ (List.mem_append_left _ (List.mem_append_left _ (List.mem_append_left _ (List.mem_append_left _ (List.mem_append_left _ (List.mem_append_right _ h)))))))
theorem kwX7_captureOf_4 : Cond.fieldLink RX7 117 "CardPort$Payment" "number" "I" ∈ wsX7_captureOf := List.mem_of_getElem? (i := 4) rfl
theorem htX7_captureOf_wsX502 : ∀ w ∈ wsX50, w ∈ wsX7_captureOf := fun _ h => List.mem_cons_of_mem _ (List.mem_append_left _ (List.mem_append_left _ (List.mem_append_left _ (List.mem_append_left _ (List.mem_append_left _ (List.mem_append_right _ h))))))
theorem kwX7_captureOf_5 : Cond.fieldLink RX7 148 "CardPort$Capture" "amount" "I" ∈ wsX7_captureOf := List.mem_of_getElem? (i := 5) rfl
theorem kwX7_captureOf_6 : Cond.fieldLink RX7 151 "CardPort$Capture" "fee" "I" ∈ wsX7_captureOf := List.mem_of_getElem? (i := 6) rfl
theorem kwX7_captureOf_7 : Cond.fieldLink RX7 171 "CardPort$Capture" "refunded" "I" ∈ wsX7_captureOf := List.mem_of_getElem? (i := 7) rfl
set_option maxHeartbeats 4000000 in
set_option maxRecDepth 100000 in
theorem c_X7_captureOf (l : Launch) (hlt : l.stackTraces = false) (D : va_G) (kc : Nat → ClassId) (A : Nat → Prop) (e0 : Nat × Nat) (M : Mp) {pr : Nat → Prop} {σ τ : Sg} {th : Int32} {o : Int64} {g : Gh} {nn : Nat} (hG : G pr kc e0 σ τ th o g M) (hwf : WS nn σ) (hpr : ∀ t, t ≤ 10 → pr t) (a b : Int32) : vx_Met l yX7_captureOf wsX7_captureOf ({ frames := 8, cells := 12, slots := 320, locals := 300 }) (mPre D kc A e0 M [.ref (g.1 7 0), .int a, .int b]) (va_Qi (PC pr kc e0 τ th o g (sp_captureOf σ a b)) (mB D A) A) (mXC D A (xP M [1, 2] (sp_captureOf σ a b).1)) 12 320 A := by
  refine vx_ofW (cc := cX7_captureOf) (maxL := 4) (ret := (some .int)) (by decide) rfl ?_
  intro p e s m args below meth c s₁ B hml htab hv
  obtain ⟨rfl, hw, hK, hA, hcx⟩ := hv
  have X : mX p s m _ c cX7_captureOf 4 RX7 wsX7_captureOf D kc := ⟨⟨B.exec, B.bytes, hml, findClass_of_methodNamed B.named, atoms_spec (ws := wsX7_captureOf) B.pre⟩, hK⟩
  have hx := B.exec
  have hb := B.bytes
  have hr := B.returns
  have hlocks := B.notSynchronized
  have Y : mY D A M s s.heap [] := ⟨hw, va_S.rf⟩
  have hl := lv_entry ([.ref (g.1 7 0), .int a, .int b]) (n := 4) (Nat.le_of_ble_eq_true rfl)
  rw [lg_entry_eq]
  generalize (lg_sl ([.ref (g.1 7 0), .int a, .int b]) ++ List.replicate (4 - (lg_sl ([.ref (g.1 7 0), .int a, .int b])).length) Slot.unset).toArray = ls at hl ⊢
  have hl : lv_has ls 4 [(0, .ref (g.1 7 0)), (1, .int a), (2, .int b)] := hl
  have hwn := hwf.2.2.2.1
  have hwd := hwf.1
  refine lv_aload_n hx hb dX7_captureOf_0 rfl (lv_at hl 0 rfl) ?_
  refine lv_iload_n hx hb dX7_captureOf_1 rfl (lv_at hl 1 rfl) ?_
  cases hva : vI a (nC σ) with
  | false =>
    have hg1 := hG.f7 (hpr 7 (by decide))
    refine m_xVq (As := [.int a]) (rest := []) X Y hA hcx (c_captureAt_bad l hlt D kc A e0 M hG hwf hpr a (vI_f hva (by omega))) (cwV 1 X.1.2.2.2.2 gX7_captureOf_X7_captureAt rfl rfl rfl (by decide +kernel) ⟨Nat.le_of_ble_eq_true rfl, Nat.le_of_ble_eq_true rfl⟩) hg1 rfl rfl rfl hl.1 (Nat.le_of_ble_eq_true rfl) dX7_captureOf_2 ⟨by decide, by decide⟩ htab hlocks (by decide) (by decide) (fun u hu => xP_i (k := 0) (z := 1) (by simp only [sp_captureOf, hva, Bool.and_self, Bool.and_true, Bool.and_false, Bool.false_and, Bool.true_and, Bool.false_eq_true, reduceIte]) rfl hu) (fun r2 M3 H locs p4 Y => ?_)
    exact p4.elim
  | true =>
    obtain ⟨ja, hja, hla, rfl⟩ := vI_t hva
    have hia := ix_nI hla
    have hg5 := hG.f7 (hpr 7 (by decide))
    refine m_rxVq (As := [.int (nI ja)]) (rest := []) X Y hA hcx (c_captureAt l hlt D kc A e0 M hG hwf hpr ja hja) (cwV 1 X.1.2.2.2.2 gX7_captureOf_X7_captureAt rfl rfl rfl (by decide +kernel) ⟨Nat.le_of_ble_eq_true rfl, Nat.le_of_ble_eq_true rfl⟩) hg5 rfl rfl rfl hl.1 (Nat.le_of_ble_eq_true rfl) dX7_captureOf_2 ⟨by decide, by decide⟩ htab hlocks (by decide) (by decide) (fun u h => h.elim) (fun H locs Y => ?_)
    refine lv_astore_n (lv' := [(3, .ref (g.1 1 ja)), (0, .ref (g.1 7 0)), (1, .int (nI ja)), (2, .int b)]) hx hb dX7_captureOf_5 rfl hl (by decide) rfl (fun ls hl => ?_)
    refine lv_iload_n hx hb dX7_captureOf_6 rfl (lv_at hl 3 rfl) ?_
    cases hvb : vI b 5 with
    | false =>
      refine lv_tableOut (tgt := 69) hx hb dX7_captureOf_7 (by have zq := vI_out hvb; omega) (by decide) ?_
      exact m_throw X Y hcx hlt htab hlocks hl.1 2 (is := 215) (text := "what is out of range") (by decide) th_fit.2.1 th_good2 th_ng2 (by decide) kwX7_captureOf_1 kwX7_captureOf_2 htX7_captureOf_vx_atSRX7217ja6 dX7_captureOf_69 dX7_captureOf_72 dX7_captureOf_73 dX7_captureOf_75 dX7_captureOf_78 (by decide) (Nat.le_of_ble_eq_true rfl) (by decide) (by decide) (by decide) (by decide) (xP_i (k := 1) (z := 2) (by simp only [sp_captureOf, hva, ix_nI hla, hvb, Bool.and_self, Bool.and_true, Bool.and_false, Bool.false_and, Bool.true_and, Bool.false_eq_true, reduceIte]) rfl rfl)
    | true =>
      obtain ⟨jb, hjb, hlb, rfl⟩ := vI_t hvb
      rcases (show jb = 0 ∨ jb = 1 ∨ jb = 2 ∨ jb = 3 ∨ jb = 4 by omega) with rfl | rfl | rfl | rfl | rfl
      · refine lv_tableIn (tgt := 40) hx hb dX7_captureOf_7 (by decide) (by decide) (off := 33) rfl (by decide) ?_
        refine lv_aload_n hx hb dX7_captureOf_40 rfl (lv_at hl 0 rfl) ?_
        have hg6 := hG.f1 (hpr 1 (by decide)) hja
        have hw7 := hwf.2.2.2.2.2.2.1 _ hja
        refine m_get (ref := "CardPort$Capture") (C := RX1) (T := TX1) (N := 5) (ci := 2) X Y htX7_captureOf_wsX101 hg6 rfl 1 (by decide) kwX7_captureOf_3 rfl (v := .ref (g.1 5 (σ.1 12 ja))) rfl dX7_captureOf_41 ?_
        have hg8 := hG.f5 (hpr 5 (by decide)) (hwf.2.2.2.2.2.2.1 _ hja).1
        have hw9 := hwf.2.2.2.2.1 _ (hwf.2.2.2.2.2.2.1 _ hja).1
        refine m_get (ref := "CardPort$Payment") (C := RX5) (T := TX5) (N := 7) (ci := 6) X Y htX7_captureOf_wsX502 hg8 rfl 0 (by decide) kwX7_captureOf_4 rfl (v := .int (nI (σ.1 12 ja))) rfl dX7_captureOf_44 ?_
        refine vx_ret (m_iret X Y hr hlocks (by decide) (by decide) ?_ dX7_captureOf_47)
        exact PC_i (by simp only [sp_captureOf, hva, ix_nI hla, hvb, ix_nI hlb, Bool.and_self, Bool.and_true, Bool.and_false, Bool.false_and, Bool.true_and, Bool.false_eq_true, reduceIte]; rfl) (KG.rf g) hG
      · refine lv_tableIn (tgt := 48) hx hb dX7_captureOf_7 (by decide) (by decide) (off := 41) rfl (by decide) ?_
        refine lv_aload_n hx hb dX7_captureOf_48 rfl (lv_at hl 0 rfl) ?_
        have hg10 := hG.f1 (hpr 1 (by decide)) hja
        have hw11 := hwf.2.2.2.2.2.2.1 _ hja
        refine m_get (ref := "CardPort$Capture") (C := RX1) (T := TX1) (N := 5) (ci := 2) X Y htX7_captureOf_wsX101 hg10 rfl 2 (by decide) kwX7_captureOf_5 rfl (v := .int (nI (σ.1 13 ja))) rfl dX7_captureOf_49 ?_
        refine vx_ret (m_iret X Y hr hlocks (by decide) (by decide) ?_ dX7_captureOf_52)
        exact PC_i (by simp only [sp_captureOf, hva, ix_nI hla, hvb, ix_nI hlb, Bool.and_self, Bool.and_true, Bool.and_false, Bool.false_and, Bool.true_and, Bool.false_eq_true, reduceIte]; rfl) (KG.rf g) hG
      · refine lv_tableIn (tgt := 53) hx hb dX7_captureOf_7 (by decide) (by decide) (off := 46) rfl (by decide) ?_
        refine lv_aload_n hx hb dX7_captureOf_53 rfl (lv_at hl 0 rfl) ?_
        have hg12 := hG.f1 (hpr 1 (by decide)) hja
        have hw13 := hwf.2.2.2.2.2.2.1 _ hja
        refine m_get (ref := "CardPort$Capture") (C := RX1) (T := TX1) (N := 5) (ci := 2) X Y htX7_captureOf_wsX101 hg12 rfl 3 (by decide) kwX7_captureOf_6 rfl (v := .int (nI (σ.1 14 ja))) rfl dX7_captureOf_54 ?_
        refine vx_ret (m_iret X Y hr hlocks (by decide) (by decide) ?_ dX7_captureOf_57)
        exact PC_i (by simp only [sp_captureOf, hva, ix_nI hla, hvb, ix_nI hlb, Bool.and_self, Bool.and_true, Bool.and_false, Bool.false_and, Bool.true_and, Bool.false_eq_true, reduceIte]; rfl) (KG.rf g) hG
      · refine lv_tableIn (tgt := 58) hx hb dX7_captureOf_7 (by decide) (by decide) (off := 51) rfl (by decide) ?_
        refine lv_aload_n hx hb dX7_captureOf_58 rfl (lv_at hl 0 rfl) ?_
        have hg14 := hG.f1 (hpr 1 (by decide)) hja
        have hw15 := hwf.2.2.2.2.2.2.1 _ hja
        refine m_get (ref := "CardPort$Capture") (C := RX1) (T := TX1) (N := 5) (ci := 2) X Y htX7_captureOf_wsX101 hg14 rfl 4 (by decide) kwX7_captureOf_7 rfl (v := .int (nI (σ.1 15 ja))) rfl dX7_captureOf_59 ?_
        refine vx_ret (m_iret X Y hr hlocks (by decide) (by decide) ?_ dX7_captureOf_62)
        exact PC_i (by simp only [sp_captureOf, hva, ix_nI hla, hvb, ix_nI hlb, Bool.and_self, Bool.and_true, Bool.and_false, Bool.false_and, Bool.true_and, Bool.false_eq_true, reduceIte]; rfl) (KG.rf g) hG
      · refine lv_tableIn (tgt := 63) hx hb dX7_captureOf_7 (by decide) (by decide) (off := 56) rfl (by decide) ?_
        refine lv_aload_n hx hb dX7_captureOf_63 rfl (lv_at hl 1 rfl) ?_
        refine lv_aload_n hx hb dX7_captureOf_64 rfl (lv_at hl 0 rfl) ?_
        refine m_rVi (As := [.ref (g.1 1 ja)]) (rest := []) X Y hA hcx (c_gb l D kc A e0 M hG hwf hpr ja hja) (cwV 1 X.1.2.2.2.2 gX7_captureOf_X7_givenBackOf rfl rfl rfl (by decide +kernel) ⟨Nat.le_of_ble_eq_true rfl, Nat.le_of_ble_eq_true rfl⟩) hg5 rfl rfl rfl hl.1 (Nat.le_of_ble_eq_true rfl) dX7_captureOf_65 ⟨by decide, by decide⟩ (fun H locs Y => ?_)
        refine vx_ret (m_iret X Y hr hlocks (by decide) (by decide) ?_ dX7_captureOf_68)
        exact PC_i (by simp only [sp_captureOf, hva, ix_nI hla, hvb, ix_nI hlb, Bool.and_self, Bool.and_true, Bool.and_false, Bool.false_and, Bool.true_and, Bool.false_eq_true, reduceIte]; rfl) (KG.rf g) hG
theorem kwX7_chargebackOf_1 : Cond.classLink RX7 213 "java/lang/IllegalArgumentException" ∈ wsX7_chargebackOf := List.mem_of_getElem? (i := 1) rfl
theorem kwX7_chargebackOf_2 : Cond.initialized "java/lang/IllegalArgumentException" ∈ wsX7_chargebackOf := List.mem_of_getElem? (i := 2) rfl
theorem htX7_chargebackOf_vx_atSRX7217ja5 : ∀ w ∈ (vx_atS RX7 217 "java/lang/IllegalArgumentException" ["java/lang/RuntimeException", "java/lang/Exception"]).filter goodWord, w ∈ wsX7_chargebackOf := fun _ h => List.mem_cons_of_mem _ (List.mem_append_left _ (List.mem_append_right _ h))
theorem kwX7_chargebackOf_3 : Cond.fieldLink RX7 184 "CardPort$Chargeback" "stage" "I" ∈ wsX7_chargebackOf := List.mem_of_getElem? (i := 3) rfl
theorem htX7_chargebackOf_wsX301 : ∀ w ∈ wsX30, w ∈ wsX7_chargebackOf := fun _ h => List.mem_cons_of_mem _ (List.mem_append_left _ (List.mem_append_left _ (List.mem_append_left _ (List.mem_append_left _ (List.mem_append_left _ (List.mem_append_right _ h))))))
theorem kwX7_chargebackOf_4 : Cond.fieldLink RX7 194 "CardPort$Chargeback" "capture" "LCardPort$Capture;" ∈ wsX7_chargebackOf := List.mem_of_getElem? (i := 4) rfl
theorem kwX7_chargebackOf_5 : Cond.fieldLink RX7 158 "CardPort$Capture" "number" "I" ∈ wsX7_chargebackOf := List.mem_of_getElem? (i := 5) rfl
theorem htX7_chargebackOf_wsX102 : ∀ w ∈ wsX10, w ∈ wsX7_chargebackOf := fun _ h => List.mem_cons_of_mem _ (List.mem_append_left _ (List.mem_append_left _ (List.mem_append_left _ (List.mem_append_left _ (List.mem_append_right _ h)))))
theorem kwX7_chargebackOf_6 : Cond.fieldLink RX7 198 "CardPort$Chargeback" "amount" "I" ∈ wsX7_chargebackOf := List.mem_of_getElem? (i := 6) rfl
theorem kwX7_chargebackOf_7 : Cond.fieldLink RX7 187 "CardPort$Chargeback" "lastDay" "I" ∈ wsX7_chargebackOf := List.mem_of_getElem? (i := 7) rfl
set_option maxHeartbeats 4000000 in
set_option maxRecDepth 100000 in
theorem c_X7_chargebackOf (l : Launch) (hlt : l.stackTraces = false) (D : va_G) (kc : Nat → ClassId) (A : Nat → Prop) (e0 : Nat × Nat) (M : Mp) {pr : Nat → Prop} {σ τ : Sg} {th : Int32} {o : Int64} {g : Gh} {nn : Nat} (hG : G pr kc e0 σ τ th o g M) (hwf : WS nn σ) (hpr : ∀ t, t ≤ 10 → pr t) (a b : Int32) : vx_Met l yX7_chargebackOf wsX7_chargebackOf ({ frames := 8, cells := 12, slots := 320, locals := 300 }) (mPre D kc A e0 M [.ref (g.1 7 0), .int a, .int b]) (va_Qi (PC pr kc e0 τ th o g (sp_chargebackOf σ a b)) (mB D A) A) (mXC D A (xP M [1, 2] (sp_chargebackOf σ a b).1)) 12 320 A := by
  refine vx_ofW (cc := cX7_chargebackOf) (maxL := 4) (ret := (some .int)) (by decide) rfl ?_
  intro p e s m args below meth c s₁ B hml htab hv
  obtain ⟨rfl, hw, hK, hA, hcx⟩ := hv
  have X : mX p s m _ c cX7_chargebackOf 4 RX7 wsX7_chargebackOf D kc := ⟨⟨B.exec, B.bytes, hml, findClass_of_methodNamed B.named, atoms_spec (ws := wsX7_chargebackOf) B.pre⟩, hK⟩
  have hx := B.exec
  have hb := B.bytes
  have hr := B.returns
  have hlocks := B.notSynchronized
  have Y : mY D A M s s.heap [] := ⟨hw, va_S.rf⟩
  have hl := lv_entry ([.ref (g.1 7 0), .int a, .int b]) (n := 4) (Nat.le_of_ble_eq_true rfl)
  rw [lg_entry_eq]
  generalize (lg_sl ([.ref (g.1 7 0), .int a, .int b]) ++ List.replicate (4 - (lg_sl ([.ref (g.1 7 0), .int a, .int b])).length) Slot.unset).toArray = ls at hl ⊢
  have hl : lv_has ls 4 [(0, .ref (g.1 7 0)), (1, .int a), (2, .int b)] := hl
  have hwn := hwf.2.2.2.1
  have hwd := hwf.1
  refine lv_aload_n hx hb dX7_chargebackOf_0 rfl (lv_at hl 0 rfl) ?_
  refine lv_iload_n hx hb dX7_chargebackOf_1 rfl (lv_at hl 1 rfl) ?_
  cases hva : vI a (nB σ) with
  | false =>
    have hg1 := hG.f7 (hpr 7 (by decide))
    refine m_xVq (As := [.int a]) (rest := []) X Y hA hcx (c_chargebackAt_bad l hlt D kc A e0 M hG hwf hpr a (vI_f hva (by omega))) (cwV 1 X.1.2.2.2.2 gX7_chargebackOf_X7_chargebackAt rfl rfl rfl (by decide +kernel) ⟨Nat.le_of_ble_eq_true rfl, Nat.le_of_ble_eq_true rfl⟩) hg1 rfl rfl rfl hl.1 (Nat.le_of_ble_eq_true rfl) dX7_chargebackOf_2 ⟨by decide, by decide⟩ htab hlocks (by decide) (by decide) (fun u hu => xP_i (k := 0) (z := 1) (by simp only [sp_chargebackOf, hva, Bool.and_self, Bool.and_true, Bool.and_false, Bool.false_and, Bool.true_and, Bool.false_eq_true, reduceIte]) rfl hu) (fun r2 M3 H locs p4 Y => ?_)
    exact p4.elim
  | true =>
    obtain ⟨ja, hja, hla, rfl⟩ := vI_t hva
    have hia := ix_nI hla
    have hg5 := hG.f7 (hpr 7 (by decide))
    refine m_rxVq (As := [.int (nI ja)]) (rest := []) X Y hA hcx (c_chargebackAt l hlt D kc A e0 M hG hwf hpr ja hja) (cwV 1 X.1.2.2.2.2 gX7_chargebackOf_X7_chargebackAt rfl rfl rfl (by decide +kernel) ⟨Nat.le_of_ble_eq_true rfl, Nat.le_of_ble_eq_true rfl⟩) hg5 rfl rfl rfl hl.1 (Nat.le_of_ble_eq_true rfl) dX7_chargebackOf_2 ⟨by decide, by decide⟩ htab hlocks (by decide) (by decide) (fun u h => h.elim) (fun H locs Y => ?_)
    refine lv_astore_n (lv' := [(3, .ref (g.1 3 ja)), (0, .ref (g.1 7 0)), (1, .int (nI ja)), (2, .int b)]) hx hb dX7_chargebackOf_5 rfl hl (by decide) rfl (fun ls hl => ?_)
    refine lv_iload_n hx hb dX7_chargebackOf_6 rfl (lv_at hl 3 rfl) ?_
    cases hvb : vI b 4 with
    | false =>
      refine lv_tableOut (tgt := 59) hx hb dX7_chargebackOf_7 (by have zq := vI_out hvb; omega) (by decide) ?_
      exact m_throw X Y hcx hlt htab hlocks hl.1 2 (is := 215) (text := "what is out of range") (by decide) th_fit.2.1 th_good2 th_ng2 (by decide) kwX7_chargebackOf_1 kwX7_chargebackOf_2 htX7_chargebackOf_vx_atSRX7217ja5 dX7_chargebackOf_59 dX7_chargebackOf_62 dX7_chargebackOf_63 dX7_chargebackOf_65 dX7_chargebackOf_68 (by decide) (Nat.le_of_ble_eq_true rfl) (by decide) (by decide) (by decide) (by decide) (xP_i (k := 1) (z := 2) (by simp only [sp_chargebackOf, hva, ix_nI hla, hvb, Bool.and_self, Bool.and_true, Bool.and_false, Bool.false_and, Bool.true_and, Bool.false_eq_true, reduceIte]) rfl rfl)
    | true =>
      obtain ⟨jb, hjb, hlb, rfl⟩ := vI_t hvb
      rcases (show jb = 0 ∨ jb = 1 ∨ jb = 2 ∨ jb = 3 by omega) with rfl | rfl | rfl | rfl
      · refine lv_tableIn (tgt := 36) hx hb dX7_chargebackOf_7 (by decide) (by decide) (off := 29) rfl (by decide) ?_
        refine lv_aload_n hx hb dX7_chargebackOf_36 rfl (lv_at hl 0 rfl) ?_
        have hg6 := hG.f3 (hpr 3 (by decide)) hja
        have hw7 := hwf.2.2.2.2.2.2.2.2 _ hja
        refine m_get (ref := "CardPort$Chargeback") (C := RX3) (T := TX3) (N := 5) (ci := 4) X Y htX7_chargebackOf_wsX301 hg6 rfl 3 (by decide) kwX7_chargebackOf_3 rfl (v := .int (nI (σ.1 17 ja))) rfl dX7_chargebackOf_37 ?_
        refine vx_ret (m_iret X Y hr hlocks (by decide) (by decide) ?_ dX7_chargebackOf_40)
        exact PC_i (by simp only [sp_chargebackOf, hva, ix_nI hla, hvb, ix_nI hlb, Bool.and_self, Bool.and_true, Bool.and_false, Bool.false_and, Bool.true_and, Bool.false_eq_true, reduceIte]; rfl) (KG.rf g) hG
      · refine lv_tableIn (tgt := 41) hx hb dX7_chargebackOf_7 (by decide) (by decide) (off := 34) rfl (by decide) ?_
        refine lv_aload_n hx hb dX7_chargebackOf_41 rfl (lv_at hl 0 rfl) ?_
        have hg8 := hG.f3 (hpr 3 (by decide)) hja
        have hw9 := hwf.2.2.2.2.2.2.2.2 _ hja
        refine m_get (ref := "CardPort$Chargeback") (C := RX3) (T := TX3) (N := 5) (ci := 4) X Y htX7_chargebackOf_wsX301 hg8 rfl 1 (by decide) kwX7_chargebackOf_4 rfl (v := .ref (g.1 1 (σ.1 18 ja))) rfl dX7_chargebackOf_42 ?_
        have hg10 := hG.f1 (hpr 1 (by decide)) (hwf.2.2.2.2.2.2.2.2 _ hja).2.1
        have hw11 := hwf.2.2.2.2.2.2.1 _ (hwf.2.2.2.2.2.2.2.2 _ hja).2.1
        refine m_get (ref := "CardPort$Capture") (C := RX1) (T := TX1) (N := 5) (ci := 2) X Y htX7_chargebackOf_wsX102 hg10 rfl 0 (by decide) kwX7_chargebackOf_5 rfl (v := .int (nI (σ.1 18 ja))) rfl dX7_chargebackOf_45 ?_
        refine vx_ret (m_iret X Y hr hlocks (by decide) (by decide) ?_ dX7_chargebackOf_48)
        exact PC_i (by simp only [sp_chargebackOf, hva, ix_nI hla, hvb, ix_nI hlb, Bool.and_self, Bool.and_true, Bool.and_false, Bool.false_and, Bool.true_and, Bool.false_eq_true, reduceIte]; rfl) (KG.rf g) hG
      · refine lv_tableIn (tgt := 49) hx hb dX7_chargebackOf_7 (by decide) (by decide) (off := 42) rfl (by decide) ?_
        refine lv_aload_n hx hb dX7_chargebackOf_49 rfl (lv_at hl 0 rfl) ?_
        have hg12 := hG.f3 (hpr 3 (by decide)) hja
        have hw13 := hwf.2.2.2.2.2.2.2.2 _ hja
        refine m_get (ref := "CardPort$Chargeback") (C := RX3) (T := TX3) (N := 5) (ci := 4) X Y htX7_chargebackOf_wsX301 hg12 rfl 2 (by decide) kwX7_chargebackOf_6 rfl (v := .int (nI (σ.1 19 ja))) rfl dX7_chargebackOf_50 ?_
        refine vx_ret (m_iret X Y hr hlocks (by decide) (by decide) ?_ dX7_chargebackOf_53)
        exact PC_i (by simp only [sp_chargebackOf, hva, ix_nI hla, hvb, ix_nI hlb, Bool.and_self, Bool.and_true, Bool.and_false, Bool.false_and, Bool.true_and, Bool.false_eq_true, reduceIte]; rfl) (KG.rf g) hG
      · refine lv_tableIn (tgt := 54) hx hb dX7_chargebackOf_7 (by decide) (by decide) (off := 47) rfl (by decide) ?_
        refine lv_aload_n hx hb dX7_chargebackOf_54 rfl (lv_at hl 0 rfl) ?_
        have hg14 := hG.f3 (hpr 3 (by decide)) hja
        have hw15 := hwf.2.2.2.2.2.2.2.2 _ hja
        refine m_get (ref := "CardPort$Chargeback") (C := RX3) (T := TX3) (N := 5) (ci := 4) X Y htX7_chargebackOf_wsX301 hg14 rfl 4 (by decide) kwX7_chargebackOf_7 rfl (v := .int (cbl (σ.1 17 ja) (σ.1 20 ja))) rfl dX7_chargebackOf_55 ?_
        refine vx_ret (m_iret X Y hr hlocks (by decide) (by decide) ?_ dX7_chargebackOf_58)
        exact PC_i (by simp only [sp_chargebackOf, hva, ix_nI hla, hvb, ix_nI hlb, Bool.and_self, Bool.and_true, Bool.and_false, Bool.false_and, Bool.true_and, Bool.false_eq_true, reduceIte]; rfl) (KG.rf g) hG
set_option maxHeartbeats 4000000 in
set_option maxRecDepth 100000 in
theorem c_X7_limit (l : Launch) (hlt : l.stackTraces = false) (D : va_G) (kc : Nat → ClassId) (A : Nat → Prop) (e0 : Nat × Nat) (M : Mp) {pr : Nat → Prop} {σ τ : Sg} {th : Int32} {o : Int64} {g : Gh} {nn : Nat} (hG : G pr kc e0 σ τ th o g M) (hwf : WS nn σ) (hpr : ∀ t, t ≤ 10 → pr t) (a : Int32) : vx_Met l yX7_limit wsX7_limit ({ frames := 8, cells := 12, slots := 320, locals := 300 }) (mPre D kc A e0 M [.ref (g.1 7 0), .int a]) (va_Qi (PC pr kc e0 τ th o g (sp_limit σ a)) (mB D A) A) (mXC D A (xP M [1] (sp_limit σ a).1)) 12 320 A := by
  refine vx_ofW (cc := cX7_limit) (maxL := 2) (ret := (some .int)) (by decide) rfl ?_
  intro p e s m args below meth c s₁ B hml htab hv
  obtain ⟨rfl, hw, hK, hA, hcx⟩ := hv
  have X : mX p s m _ c cX7_limit 2 RX7 wsX7_limit D kc := ⟨⟨B.exec, B.bytes, hml, findClass_of_methodNamed B.named, atoms_spec (ws := wsX7_limit) B.pre⟩, hK⟩
  have hx := B.exec
  have hb := B.bytes
  have hr := B.returns
  have hlocks := B.notSynchronized
  have Y : mY D A M s s.heap [] := ⟨hw, va_S.rf⟩
  have hl := lv_entry ([.ref (g.1 7 0), .int a]) (n := 2) (Nat.le_of_ble_eq_true rfl)
  rw [lg_entry_eq]
  generalize (lg_sl ([.ref (g.1 7 0), .int a]) ++ List.replicate (2 - (lg_sl ([.ref (g.1 7 0), .int a])).length) Slot.unset).toArray = ls at hl ⊢
  have hl : lv_has ls 2 [(0, .ref (g.1 7 0)), (1, .int a)] := hl
  have hwn := hwf.2.2.2.1
  have hwd := hwf.1
  refine lv_aload_n hx hb dX7_limit_0 rfl (lv_at hl 0 rfl) ?_
  refine lv_aload_n hx hb dX7_limit_1 rfl (lv_at hl 0 rfl) ?_
  refine lv_iload_n hx hb dX7_limit_2 rfl (lv_at hl 1 rfl) ?_
  cases hva : vI a 12 with
  | false =>
    have hg1 := hG.f7 (hpr 7 (by decide))
    refine m_xVq (As := [.int a]) (rest := [.ref (g.1 7 0)]) X Y hA hcx (c_cardAt_bad l hlt D kc A e0 M (g.1 7 0) a (vI_f hva (by decide))) (cwV 1 X.1.2.2.2.2 gX7_limit_X7_cardAt rfl rfl rfl (by decide +kernel) ⟨Nat.le_of_ble_eq_true rfl, Nat.le_of_ble_eq_true rfl⟩) hg1 rfl rfl rfl hl.1 (Nat.le_of_ble_eq_true rfl) dX7_limit_3 ⟨by decide, by decide⟩ htab hlocks (by decide) (by decide) (fun u hu => xP_i (k := 0) (z := 1) (by simp only [sp_limit, hva, Bool.and_self, Bool.and_true, Bool.and_false, Bool.false_and, Bool.true_and, Bool.false_eq_true, reduceIte]) rfl hu) (fun r2 M3 H locs p4 Y => ?_)
    exact p4.elim
  | true =>
    obtain ⟨ja, hja, hla, rfl⟩ := vI_t hva
    have hia := ix_nI hla
    have hg5 := hG.f7 (hpr 7 (by decide))
    refine m_rxVq (As := [.int (nI ja)]) (rest := [.ref (g.1 7 0)]) X Y hA hcx (c_cardAt l hlt D kc A e0 M hG hwf hpr ja hja) (cwV 1 X.1.2.2.2.2 gX7_limit_X7_cardAt rfl rfl rfl (by decide +kernel) ⟨Nat.le_of_ble_eq_true rfl, Nat.le_of_ble_eq_true rfl⟩) hg5 rfl rfl rfl hl.1 (Nat.le_of_ble_eq_true rfl) dX7_limit_3 ⟨by decide, by decide⟩ htab hlocks (by decide) (by decide) (fun u h => h.elim) (fun H locs Y => ?_)
    refine m_rVi (As := [.ref (g.1 2 ja)]) (rest := []) X Y hA hcx (c_limitOf l D kc A e0 M hG hwf hpr ja hja) (cwV 1 X.1.2.2.2.2 gX7_limit_X7_limitOf rfl rfl rfl (by decide +kernel) ⟨Nat.le_of_ble_eq_true rfl, Nat.le_of_ble_eq_true rfl⟩) hg5 rfl rfl rfl hl.1 (Nat.le_of_ble_eq_true rfl) dX7_limit_6 ⟨by decide, by decide⟩ (fun H locs Y => ?_)
    refine vx_ret (m_iret X Y hr hlocks (by decide) (by decide) ?_ dX7_limit_9)
    exact PC_i (by simp only [sp_limit, hva, ix_nI hla, Bool.and_self, Bool.and_true, Bool.and_false, Bool.false_and, Bool.true_and, Bool.false_eq_true, reduceIte]) (KG.rf g) hG
theorem kwX7_count_1 : Cond.classLink RX7 213 "java/lang/IllegalArgumentException" ∈ wsX7_count := List.mem_of_getElem? (i := 1) rfl
theorem kwX7_count_2 : Cond.initialized "java/lang/IllegalArgumentException" ∈ wsX7_count := List.mem_of_getElem? (i := 2) rfl
theorem htX7_count_vx_atSRX7217ja4 : ∀ w ∈ (vx_atS RX7 217 "java/lang/IllegalArgumentException" ["java/lang/RuntimeException", "java/lang/Exception"]).filter goodWord, w ∈ wsX7_count := fun _ h => List.mem_cons_of_mem _ (List.mem_append_right _ h)
theorem kwX7_count_3 : Cond.fieldLink RX7 36 "CardPort" "payments" "Ljava/util/List;" ∈ wsX7_count := List.mem_of_getElem? (i := 3) rfl
theorem htX7_count_wsX701 : ∀ w ∈ wsX70, w ∈ wsX7_count := fun _ h => List.mem_cons_of_mem _ (List.mem_append_left _ (List.mem_append_left _ (List.mem_append_left _ (List.mem_append_right _ h))))
theorem kwX7_count_4 : Cond.fieldLink RX7 40 "CardPort" "captures" "Ljava/util/List;" ∈ wsX7_count := List.mem_of_getElem? (i := 4) rfl
theorem kwX7_count_5 : Cond.fieldLink RX7 43 "CardPort" "chargebacks" "Ljava/util/List;" ∈ wsX7_count := List.mem_of_getElem? (i := 5) rfl
theorem kwX7_count_6 : Cond.fieldLink RX7 46 "CardPort" "day" "I" ∈ wsX7_count := List.mem_of_getElem? (i := 6) rfl
set_option maxHeartbeats 4000000 in
set_option maxRecDepth 100000 in
theorem c_X7_count (l : Launch) (hlt : l.stackTraces = false) (D : va_G) (kc : Nat → ClassId) (A : Nat → Prop) (e0 : Nat × Nat) (M : Mp) {pr : Nat → Prop} {σ τ : Sg} {th : Int32} {o : Int64} {g : Gh} {nn : Nat} (hG : G pr kc e0 σ τ th o g M) (hwf : WS nn σ) (hpr : ∀ t, t ≤ 10 → pr t) (a : Int32) (hfe : σ.1 21 0 = feS σ (nC σ)) : vx_Met l yX7_count wsX7_count ({ frames := 8, cells := 12, slots := 320, locals := 300 }) (mPre D kc A e0 M [.ref (g.1 7 0), .int a]) (va_Qi (PC pr kc e0 τ th o g (sp_count σ a)) (mB D A) A) (mXC D A (xP M [2] (sp_count σ a).1)) 12 320 A := by
  refine vx_ofW (cc := cX7_count) (maxL := 2) (ret := (some .int)) (by decide) rfl ?_
  intro p e s m args below meth c s₁ B hml htab hv
  obtain ⟨rfl, hw, hK, hA, hcx⟩ := hv
  have X : mX p s m _ c cX7_count 2 RX7 wsX7_count D kc := ⟨⟨B.exec, B.bytes, hml, findClass_of_methodNamed B.named, atoms_spec (ws := wsX7_count) B.pre⟩, hK⟩
  have hx := B.exec
  have hb := B.bytes
  have hr := B.returns
  have hlocks := B.notSynchronized
  have Y : mY D A M s s.heap [] := ⟨hw, va_S.rf⟩
  have hl := lv_entry ([.ref (g.1 7 0), .int a]) (n := 2) (Nat.le_of_ble_eq_true rfl)
  rw [lg_entry_eq]
  generalize (lg_sl ([.ref (g.1 7 0), .int a]) ++ List.replicate (2 - (lg_sl ([.ref (g.1 7 0), .int a])).length) Slot.unset).toArray = ls at hl ⊢
  have hl : lv_has ls 2 [(0, .ref (g.1 7 0)), (1, .int a)] := hl
  have hwn := hwf.2.2.2.1
  have hwd := hwf.1
  refine lv_iload_n hx hb dX7_count_0 rfl (lv_at hl 1 rfl) ?_
  cases hva : vI a 5 with
  | false =>
    refine lv_tableOut (tgt := 76) hx hb dX7_count_1 (by have zq := vI_out hva; omega) (by decide) ?_
    exact m_throw X Y hcx hlt htab hlocks hl.1 2 (is := 215) (text := "what is out of range") (by decide) th_fit.2.1 th_good2 th_ng2 (by decide) kwX7_count_1 kwX7_count_2 htX7_count_vx_atSRX7217ja4 dX7_count_76 dX7_count_79 dX7_count_80 dX7_count_82 dX7_count_85 (by decide) (Nat.le_of_ble_eq_true rfl) (by decide) (by decide) (by decide) (by decide) (xP_i (k := 0) (z := 2) (by simp only [sp_count, hva, Bool.and_self, Bool.and_true, Bool.and_false, Bool.false_and, Bool.true_and, Bool.false_eq_true, reduceIte]) rfl rfl)
  | true =>
    obtain ⟨ja, hja, hla, rfl⟩ := vI_t hva
    rcases (show ja = 0 ∨ ja = 1 ∨ ja = 2 ∨ ja = 3 ∨ ja = 4 by omega) with rfl | rfl | rfl | rfl | rfl
    · refine lv_tableIn (tgt := 36) hx hb dX7_count_1 (by decide) (by decide) (off := 35) rfl (by decide) ?_
      refine lv_aload_n hx hb dX7_count_36 rfl (lv_at hl 0 rfl) ?_
      have hg1 := hG.f7 (hpr 7 (by decide))
      refine m_get (ref := "CardPort") (C := RX7) (T := TX7) (N := 8) (ci := 8) X Y htX7_count_wsX701 hg1 rfl 4 (by decide) kwX7_count_3 rfl (v := .ref (g.1 9 0)) rfl dX7_count_37 ?_
      have hg2 := hG.f9_0 (hpr 9 (by decide))
      refine m_rFi (As := []) (rest := []) X Y hA hcx (c_size l D kc A e0 M (g.1 9 0) (lar e0 σ g 0) (nP σ) (g.2.2.2 0) hg2) (va_cwF 0 X.1.2.2.2.2 gX7_count_Jx4a65c_size_8abf5_f94Jx4a65c rfl rfl rfl hcx.1.2.2.2.2.2.2.1 (by decide +kernel) ⟨Nat.le_of_ble_eq_true rfl, Nat.le_of_ble_eq_true rfl⟩) hg2 rfl rfl rfl hl.1 (Nat.le_of_ble_eq_true rfl) dX7_count_40 ⟨by decide, by decide⟩ (fun H locs Y => ?_)
      refine vx_ret (m_iret X Y hr hlocks (by decide) (by decide) ?_ dX7_count_45)
      exact PC_i (by simp only [sp_count, hva, ix_nI hla, Bool.and_self, Bool.and_true, Bool.and_false, Bool.false_and, Bool.true_and, Bool.false_eq_true, reduceIte]; rfl) (KG.rf g) hG
    · refine lv_tableIn (tgt := 46) hx hb dX7_count_1 (by decide) (by decide) (off := 45) rfl (by decide) ?_
      refine lv_aload_n hx hb dX7_count_46 rfl (lv_at hl 0 rfl) ?_
      have hg3 := hG.f7 (hpr 7 (by decide))
      refine m_get (ref := "CardPort") (C := RX7) (T := TX7) (N := 8) (ci := 8) X Y htX7_count_wsX701 hg3 rfl 5 (by decide) kwX7_count_4 rfl (v := .ref (g.1 9 1)) rfl dX7_count_47 ?_
      have hg4 := hG.f9_1 (hpr 9 (by decide))
      refine m_rFi (As := []) (rest := []) X Y hA hcx (c_size l D kc A e0 M (g.1 9 1) (lar e0 σ g 1) (nC σ) (g.2.2.2 1) hg4) (va_cwF 0 X.1.2.2.2.2 gX7_count_Jx4a65c_size_8abf5_f94Jx4a65c rfl rfl rfl hcx.1.2.2.2.2.2.2.1 (by decide +kernel) ⟨Nat.le_of_ble_eq_true rfl, Nat.le_of_ble_eq_true rfl⟩) hg4 rfl rfl rfl hl.1 (Nat.le_of_ble_eq_true rfl) dX7_count_50 ⟨by decide, by decide⟩ (fun H locs Y => ?_)
      refine vx_ret (m_iret X Y hr hlocks (by decide) (by decide) ?_ dX7_count_55)
      exact PC_i (by simp only [sp_count, hva, ix_nI hla, Bool.and_self, Bool.and_true, Bool.and_false, Bool.false_and, Bool.true_and, Bool.false_eq_true, reduceIte]; rfl) (KG.rf g) hG
    · refine lv_tableIn (tgt := 56) hx hb dX7_count_1 (by decide) (by decide) (off := 55) rfl (by decide) ?_
      refine lv_aload_n hx hb dX7_count_56 rfl (lv_at hl 0 rfl) ?_
      have hg5 := hG.f7 (hpr 7 (by decide))
      refine m_get (ref := "CardPort") (C := RX7) (T := TX7) (N := 8) (ci := 8) X Y htX7_count_wsX701 hg5 rfl 6 (by decide) kwX7_count_5 rfl (v := .ref (g.1 9 2)) rfl dX7_count_57 ?_
      have hg6 := hG.f9_2 (hpr 9 (by decide))
      refine m_rFi (As := []) (rest := []) X Y hA hcx (c_size l D kc A e0 M (g.1 9 2) (lar e0 σ g 2) (nB σ) (g.2.2.2 2) hg6) (va_cwF 0 X.1.2.2.2.2 gX7_count_Jx4a65c_size_8abf5_f94Jx4a65c rfl rfl rfl hcx.1.2.2.2.2.2.2.1 (by decide +kernel) ⟨Nat.le_of_ble_eq_true rfl, Nat.le_of_ble_eq_true rfl⟩) hg6 rfl rfl rfl hl.1 (Nat.le_of_ble_eq_true rfl) dX7_count_60 ⟨by decide, by decide⟩ (fun H locs Y => ?_)
      refine vx_ret (m_iret X Y hr hlocks (by decide) (by decide) ?_ dX7_count_65)
      exact PC_i (by simp only [sp_count, hva, ix_nI hla, Bool.and_self, Bool.and_true, Bool.and_false, Bool.false_and, Bool.true_and, Bool.false_eq_true, reduceIte]; rfl) (KG.rf g) hG
    · refine lv_tableIn (tgt := 66) hx hb dX7_count_1 (by decide) (by decide) (off := 65) rfl (by decide) ?_
      refine lv_aload_n hx hb dX7_count_66 rfl (lv_at hl 0 rfl) ?_
      have hg7 := hG.f7 (hpr 7 (by decide))
      refine m_rVi (As := []) (rest := []) X Y hA hcx (c_sf l D kc A e0 M hG hwf hpr) (cwV 0 X.1.2.2.2.2 gX7_count_X7_sumOfFees rfl rfl rfl (by decide +kernel) ⟨Nat.le_of_ble_eq_true rfl, Nat.le_of_ble_eq_true rfl⟩) hg7 rfl rfl rfl hl.1 (Nat.le_of_ble_eq_true rfl) dX7_count_67 ⟨by decide, by decide⟩ (fun H locs Y => ?_)
      refine vx_ret (m_iret X Y hr hlocks (by decide) (by decide) ?_ dX7_count_70)
      exact PC_i (by simp only [sp_count, hva, ix_nI hla, Bool.and_self, Bool.and_true, Bool.and_false, Bool.false_and, Bool.true_and, Bool.false_eq_true, reduceIte]; rw [← hfe]; rfl) (KG.rf g) hG
    · refine lv_tableIn (tgt := 71) hx hb dX7_count_1 (by decide) (by decide) (off := 70) rfl (by decide) ?_
      refine lv_aload_n hx hb dX7_count_71 rfl (lv_at hl 0 rfl) ?_
      have hg8 := hG.f7 (hpr 7 (by decide))
      refine m_get (ref := "CardPort") (C := RX7) (T := TX7) (N := 8) (ci := 8) X Y htX7_count_wsX701 hg8 rfl 7 (by decide) kwX7_count_6 rfl (v := .int (nI (tD σ))) rfl dX7_count_72 ?_
      refine vx_ret (m_iret X Y hr hlocks (by decide) (by decide) ?_ dX7_count_75)
      exact PC_i (by simp only [sp_count, hva, ix_nI hla, Bool.and_self, Bool.and_true, Bool.and_false, Bool.false_and, Bool.true_and, Bool.false_eq_true, reduceIte]; rfl) (KG.rf g) hG
