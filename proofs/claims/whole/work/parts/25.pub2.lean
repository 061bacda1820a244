theorem up2_comm {α : Type} (f : Nat → Nat → α) {t t' : Nat} (i i' : Nat) (v w : α) (h : t ≠ t') : up2 (up2 f t i v) t' i' w = up2 (up2 f t' i' w) t i v := by
  funext a b
  by_cases h1 : a = t <;> by_cases h2 : a = t' <;> by_cases h3 : b = i <;> by_cases h4 : b = i' <;> simp_all [up2]
theorem addCap_eq (σ : Sg) (j v : Nat) (h : cfeN σ j v ≤ v) : addCap σ j v = (up2 (up2 (up2 (up2 (up2 (up2 σ.1 12 (nC σ) j) 13 (nC σ) v) 14 (nC σ) (cfeN σ j v)) 11 0 (nC σ + 1)) 8 j (σ.1 8 j + v)) 21 0 (σ.1 21 0 + cfeN σ j v), payN σ.2 (σ.1 5 j / 3) (σ.1 6 j % 4) ((v - cfeN σ j v : Nat) : Int)) := by
  unfold addCap
  rw [up2_comm _ j 0 (σ.1 8 j + v) (nC σ + 1) (show (8 : Nat) ≠ 11 by decide), Int.ofNat_sub h]
theorem G.fees {pr : Nat → Prop} {kc : Nat → ClassId} {e0 : Nat × Nat} {σ τ : Sg} {th : Int32} {o : Int64} {g : Gh} {M : Mp} (hG : G pr kc e0 σ τ th o g M) (v : Nat) : G pr kc e0 (up2 σ.1 21 0 v, σ.2) τ th o g M := by
  refine hG.sig rfl rfl rfl (fun t' i' _ => gc_sig kc e0 τ th o g ?_)
  match t' with
  | 0 => exact ⟨rfl, rfl⟩
  | 1 => exact ⟨rfl, rfl, rfl, rfl⟩
  | 2 => trivial
  | 3 => exact ⟨rfl, rfl, rfl, rfl⟩
  | 4 => exact ⟨rfl, rfl⟩
  | 5 => exact ⟨rfl, rfl, rfl, rfl, rfl, rfl⟩
  | 6 => rfl
  | 7 => rfl
  | 8 => trivial
  | 9 => rfl
  | 10 => trivial
  | 11 => trivial
  | 12 => trivial
  | 13 => trivial
  | t + 14 => trivial
theorem lmL_b {nn : Nat} {σ : Sg} (hwf : WS nn σ) (cd : Nat) : ∀ k s n, k ≤ nC σ → s ≤ 100000 * n → n ≤ 5 → (lmL σ cd k s n).1 ≤ 500000
  | 0, s, n, _, h2, h3 => by show s ≤ 500000; omega
  | k + 1, s, n, h1, h2, h3 => by
    have hk := hwf.2.2.2.2.2.2.1 k (by omega)
    rw [lmL]
    split
    · split
      · exact lmL_b hwf cd k _ _ (by omega) (by omega) (by omega)
      · exact lmL_b hwf cd k _ _ (by omega) h2 h3
    · show s ≤ 500000; omega
theorem limN_lt {nn : Nat} {σ : Sg} (hwf : WS nn σ) (cd : Nat) : limN σ cd < 2147483648 := by
  have h := lmL_b hwf cd (nC σ) 0 0 (Nat.le_refl _) (by omega) (by omega)
  unfold limN limO
  have h2 : 3 * (lmL σ cd (nC σ) 0 0).1 / (lmL σ cd (nC σ) 0 0).2 ≤ 3 * (lmL σ cd (nC σ) 0 0).1 := Nat.div_le_self _ _
  split
  · omega
  · split <;> omega
theorem kwX7_authorise_1 : Cond.constant RX7 93 (100000) ∈ wsX7_authorise := List.mem_of_getElem? (i := 1) rfl
theorem kwX7_authorise_2 : Cond.fieldLink RX7 36 "CardPort" "payments" "Ljava/util/List;" ∈ wsX7_authorise := List.mem_of_getElem? (i := 2) rfl
theorem htX7_authorise_wsX701 : ∀ w ∈ wsX70, w ∈ wsX7_authorise := fun _ h => List.mem_cons_of_mem _ (List.mem_append_left _ (List.mem_append_left _ (List.mem_append_left _ (List.mem_append_left _ (List.mem_append_left _ (List.mem_append_left _ (List.mem_append_right _ h)))))))
theorem kwX7_authorise_3 : Cond.classLink RX7 108 RX5 ∈ wsX7_authorise := List.mem_of_getElem? (i := 3) rfl
theorem kwX7_authorise_4 : Cond.instantiable RX5 7 ∈ wsX7_authorise := List.mem_of_getElem? (i := 4) rfl
theorem kwX7_authorise_5 : Cond.initialized RX5 ∈ wsX7_authorise := List.mem_of_getElem? (i := 5) rfl
theorem htX7_authorise_wsX502 : ∀ w ∈ wsX50, w ∈ wsX7_authorise := fun _ h => List.mem_cons_of_mem _ (List.mem_append_left _ (List.mem_append_left _ (List.mem_append_left _ (List.mem_append_left _ (List.mem_append_left _ (List.mem_append_right _ h))))))
theorem kwX7_authorise_6 : Cond.fieldLink RX7 46 "CardPort" "day" "I" ∈ wsX7_authorise := List.mem_of_getElem? (i := 6) rfl
theorem kwX7_authorise_67 : Cond.methodLink RX7 110 yX5_init ∈ wsX7_authorise := List.mem_of_getElem? (i := 67) rfl
theorem kwX7_authorise_68 : Cond.instanceMethod yX5_init ∈ wsX7_authorise := List.mem_of_getElem? (i := 68) rfl
theorem kwX7_authorise_7 : Cond.fieldLink RX7 117 "CardPort$Payment" "number" "I" ∈ wsX7_authorise := List.mem_of_getElem? (i := 7) rfl
set_option maxHeartbeats 4000000 in
set_option maxRecDepth 100000 in
theorem c_X7_authorise (l : Launch) (hlt : l.stackTraces = false) (D : va_G) (kc : Nat → ClassId) (A : Nat → Prop) (e0 : Nat × Nat) (M : Mp) {pr : Nat → Prop} {σ τ : Sg} {th : Int32} {o : Int64} {g : Gh} {nn : Nat} (hG : G pr kc e0 σ τ th o g M) (hwf : WS nn σ) (hpr : ∀ t, t ≤ 10 → pr t) (a b d : Int32) : vx_Met l yX7_authorise wsX7_authorise ({ frames := 8, cells := 12, slots := 320, locals := 300 }) (mPre D kc A e0 M [.ref (g.1 7 0), .int a, .int b, .int d]) (va_Qi (PC pr kc e0 τ th o g (sp_authorise σ a b d)) (mB D A) A) (mXC D A (xP M [1, 2, 3] (sp_authorise σ a b d).1)) 12 320 A := by
  refine vx_ofW (cc := cX7_authorise) (maxL := 7) (ret := (some .int)) (by decide) rfl ?_
  intro p e s m args below meth c s₁ B hml htab hv
  obtain ⟨rfl, hw, hK, hA, hcx⟩ := hv
  have X : mX p s m _ c cX7_authorise 7 RX7 wsX7_authorise D kc := ⟨⟨B.exec, B.bytes, hml, findClass_of_methodNamed B.named, atoms_spec (ws := wsX7_authorise) B.pre⟩, hK⟩
  have hx := B.exec
  have hb := B.bytes
  have hr := B.returns
  have hlocks := B.notSynchronized
  have Y : mY D A M s s.heap [] := ⟨hw, va_S.rf⟩
  have hl := lv_entry ([.ref (g.1 7 0), .int a, .int b, .int d]) (n := 7) (Nat.le_of_ble_eq_true rfl)
  rw [lg_entry_eq]
  generalize (lg_sl ([.ref (g.1 7 0), .int a, .int b, .int d]) ++ List.replicate (7 - (lg_sl ([.ref (g.1 7 0), .int a, .int b, .int d])).length) Slot.unset).toArray = ls at hl ⊢
  have hl : lv_has ls 7 [(0, .ref (g.1 7 0)), (1, .int a), (2, .int b), (3, .int d)] := hl
  have hwn := hwf.2.2.2.1
  have hwd := hwf.1
  refine lv_aload_n hx hb dX7_authorise_0 rfl (lv_at hl 0 rfl) ?_
  refine lv_iload_n hx hb dX7_authorise_1 rfl (lv_at hl 1 rfl) ?_
  cases hva : vI a 12 with
  | false =>
    have hg1 := hG.f7 (hpr 7 (by decide))
    refine m_xVq (As := [.int a]) (rest := []) X Y hA hcx (c_cardAt_bad l hlt D kc A e0 M (g.1 7 0) a (vI_f hva (by decide))) (cwV 1 X.1.2.2.2.2 gX7_authorise_X7_cardAt rfl rfl rfl (by decide +kernel) ⟨Nat.le_of_ble_eq_true rfl, Nat.le_of_ble_eq_true rfl⟩) hg1 rfl rfl rfl hl.1 (Nat.le_of_ble_eq_true rfl) dX7_authorise_2 ⟨by decide, by decide⟩ htab hlocks (by decide) (by decide) (fun u hu => xP_i (k := 0) (z := 1) (by simp only [sp_authorise, hva, Bool.and_self, Bool.and_true, Bool.and_false, Bool.false_and, Bool.true_and, Bool.false_eq_true, reduceIte]) rfl hu) (fun r2 M3 H locs p4 Y => ?_)
    exact p4.elim
  | true =>
    obtain ⟨ja, hja, hla, rfl⟩ := vI_t hva
    have hia := ix_nI hla
    have hg5 := hG.f7 (hpr 7 (by decide))
    refine m_rxVq (As := [.int (nI ja)]) (rest := []) X Y hA hcx (c_cardAt l hlt D kc A e0 M hG hwf hpr ja hja) (cwV 1 X.1.2.2.2.2 gX7_authorise_X7_cardAt rfl rfl rfl (by decide +kernel) ⟨Nat.le_of_ble_eq_true rfl, Nat.le_of_ble_eq_true rfl⟩) hg5 rfl rfl rfl hl.1 (Nat.le_of_ble_eq_true rfl) dX7_authorise_2 ⟨by decide, by decide⟩ htab hlocks (by decide) (by decide) (fun u h => h.elim) (fun H locs Y => ?_)
    refine lv_astore (lv' := [(4, .ref (g.1 2 ja)), (0, .ref (g.1 7 0)), (1, .int (nI ja)), (2, .int b), (3, .int d)]) hx hb dX7_authorise_5 hl (by decide) rfl (fun ls hl => ?_)
    refine lv_aload_n hx hb dX7_authorise_7 rfl (lv_at hl 1 rfl) ?_
    refine lv_iload_n hx hb dX7_authorise_8 rfl (lv_at hl 3 rfl) ?_
    cases hvb : vI b 8 with
    | false =>
      refine m_xVq (As := [.int b]) (rest := []) X Y hA hcx (c_shopAt_bad l hlt D kc A e0 M (g.1 7 0) b (vI_f hvb (by decide))) (cwV 1 X.1.2.2.2.2 gX7_authorise_X7_shopAt rfl rfl rfl (by decide +kernel) ⟨Nat.le_of_ble_eq_true rfl, Nat.le_of_ble_eq_true rfl⟩) hg5 rfl rfl rfl hl.1 (Nat.le_of_ble_eq_true rfl) dX7_authorise_9 ⟨by decide, by decide⟩ htab hlocks (by decide) (by decide) (fun u hu => xP_i (k := 0) (z := 1) (by simp only [sp_authorise, hva, ix_nI hla, hvb, Bool.and_self, Bool.and_true, Bool.and_false, Bool.false_and, Bool.true_and, Bool.false_eq_true, reduceIte]) rfl hu) (fun r6 M7 H locs p8 Y => ?_)
      exact p8.elim
    | true =>
      obtain ⟨jb, hjb, hlb, rfl⟩ := vI_t hvb
      have hib := ix_nI hlb
      refine m_rxVq (As := [.int (nI jb)]) (rest := []) X Y hA hcx (c_shopAt l hlt D kc A e0 M hG hwf hpr jb hjb) (cwV 1 X.1.2.2.2.2 gX7_authorise_X7_shopAt rfl rfl rfl (by decide +kernel) ⟨Nat.le_of_ble_eq_true rfl, Nat.le_of_ble_eq_true rfl⟩) hg5 rfl rfl rfl hl.1 (Nat.le_of_ble_eq_true rfl) dX7_authorise_9 ⟨by decide, by decide⟩ htab hlocks (by decide) (by decide) (fun u h => h.elim) (fun H locs Y => ?_)
      refine lv_astore (lv' := [(5, .ref (g.1 6 jb)), (4, .ref (g.1 2 ja)), (0, .ref (g.1 7 0)), (1, .int (nI ja)), (2, .int (nI jb)), (3, .int d)]) hx hb dX7_authorise_12 hl (by decide) rfl (fun ls hl => ?_)
      refine lv_iload_n hx hb dX7_authorise_14 rfl (lv_at hl 5 rfl) ?_
      refine n_iconst hx hb 1 dX7_authorise_15 (by decide) ?_
      refine lv_ldc hx hb X.1.2.2.2.1 (X.1.2.2.2.2 _ kwX7_authorise_1) dX7_authorise_16 ?_
      refine n_top (y := nI 100000) (by decide) ?_
      cases hrd : rI d 1 100000 with
      | false =>
        refine m_xSv (As := [.int d, .int (nI 1), .int (nI 100000)]) (rest := []) X Y hA hcx (c_rr_bad l hlt D kc A e0 M d 1 100000 (rI_f hrd (by decide) (by decide))) (va_cwS 3 X.1.2.2.2.2 gX7_authorise_X7_requireRange rfl rfl rfl (by decide +kernel) ⟨Nat.le_of_ble_eq_true rfl, Nat.le_of_ble_eq_true rfl⟩) rfl rfl hl.1 (Nat.le_of_ble_eq_true rfl) dX7_authorise_18 ⟨by decide, by decide⟩ htab hlocks (by decide) (by decide) (fun u hu => xP_i (k := 1) (z := 2) (by simp only [sp_authorise, hva, ix_nI hla, hvb, ix_nI hlb, hrd, Bool.and_self, Bool.and_true, Bool.and_false, Bool.false_and, Bool.true_and, Bool.false_eq_true, reduceIte]) rfl hu) (fun M9 H locs p10 Y => ?_)
        exact p10.elim
      | true =>
        obtain ⟨jd, had, hbd, hld, rfl⟩ := rI_t hrd
        refine m_rxSv (As := [.int (nI jd), .int (nI 1), .int (nI 100000)]) (rest := []) X Y hA hcx (c_rr_ok l hlt D kc A e0 M jd 1 100000 had hbd (by decide)) (va_cwS 3 X.1.2.2.2.2 gX7_authorise_X7_requireRange rfl rfl rfl (by decide +kernel) ⟨Nat.le_of_ble_eq_true rfl, Nat.le_of_ble_eq_true rfl⟩) rfl rfl hl.1 (Nat.le_of_ble_eq_true rfl) dX7_authorise_18 ⟨by decide, by decide⟩ htab hlocks (by decide) (by decide) (fun u h => h.elim) (fun H locs Y => ?_)
        refine lv_aload_n hx hb dX7_authorise_21 rfl (lv_at hl 2 rfl) ?_
        refine m_get (ref := "CardPort") (C := RX7) (T := TX7) (N := 8) (ci := 8) X Y htX7_authorise_wsX701 hg5 rfl 4 (by decide) kwX7_authorise_2 rfl (v := .ref (g.1 9 0)) rfl dX7_authorise_22 ?_
        have hg11 := hG.f9_0 (hpr 9 (by decide))
        refine m_rFi (As := []) (rest := []) X Y hA hcx (c_size l D kc A e0 M (g.1 9 0) (lar e0 σ g 0) (nP σ) (g.2.2.2 0) hg11) (va_cwF 0 X.1.2.2.2.2 gX7_authorise_Jx4a65c_size_8abf5_f94Jx4a65c rfl rfl rfl hcx.1.2.2.2.2.2.2.1 (by decide +kernel) ⟨Nat.le_of_ble_eq_true rfl, Nat.le_of_ble_eq_true rfl⟩) hg11 rfl rfl rfl hl.1 (Nat.le_of_ble_eq_true rfl) dX7_authorise_25 ⟨by decide, by decide⟩ (fun H locs Y => ?_)
        refine n_bipush hx hb 60 dX7_authorise_30 (by decide) ?_
        refine n_icmp_ge hx hb 39 (by omega) (by omega) dX7_authorise_32 (by decide) (fun c32 => ?_) (fun c32 => ?_)
        · refine n_iconst hx hb 0 dX7_authorise_39 (by decide) ?_
          refine m_xSv (As := [.int (nI 0)]) (rest := []) X Y hA hcx (c_rp_bad l hlt D kc A e0 M ) (va_cwS 1 X.1.2.2.2.2 gX7_authorise_X7_requirePossible rfl rfl rfl (by decide +kernel) ⟨Nat.le_of_ble_eq_true rfl, Nat.le_of_ble_eq_true rfl⟩) rfl rfl hl.1 (Nat.le_of_ble_eq_true rfl) dX7_authorise_40 ⟨by decide, by decide⟩ htab hlocks (by decide) (by decide) (fun u hu => xP_i (k := 2) (z := 3) (by simp only [sp_authorise, hva, ix_nI hla, hvb, ix_nI hlb, hrd, ix_nI hld, Bool.and_self, Bool.and_true, Bool.and_false, Bool.false_and, Bool.true_and, Bool.false_eq_true, reduceIte]; rw [if_neg (by omega)]) rfl hu) (fun M12 H locs p13 Y => ?_)
          exact p13.elim
        · refine n_iconst hx hb 1 dX7_authorise_35 (by decide) ?_
          refine lv_goto (tgt := 40) hx hb dX7_authorise_36 (by decide) ?_
          refine m_rxSv (As := [.int (nI 1)]) (rest := []) X Y hA hcx (c_rp_ok l hlt D kc A e0 M ) (va_cwS 1 X.1.2.2.2.2 gX7_authorise_X7_requirePossible rfl rfl rfl (by decide +kernel) ⟨Nat.le_of_ble_eq_true rfl, Nat.le_of_ble_eq_true rfl⟩) rfl rfl hl.1 (Nat.le_of_ble_eq_true rfl) dX7_authorise_40 ⟨by decide, by decide⟩ htab hlocks (by decide) (by decide) (fun u h => h.elim) (fun H locs Y => ?_)
          have c32x : nP σ < 60 := by omega
          refine lv_iload_n hx hb dX7_authorise_43 rfl (lv_at hl 5 rfl) ?_
          refine lv_aload_n hx hb dX7_authorise_44 rfl (lv_at hl 2 rfl) ?_
          refine lv_aload hx hb dX7_authorise_45 (lv_at hl 1 rfl) ?_
          refine m_rVi (As := [.ref (g.1 2 ja)]) (rest := [.int (nI jd)]) X Y hA hcx (c_limitOf l D kc A e0 M hG hwf hpr ja hja) (cwV 1 X.1.2.2.2.2 gX7_authorise_X7_limitOf rfl rfl rfl (by decide +kernel) ⟨Nat.le_of_ble_eq_true rfl, Nat.le_of_ble_eq_true rfl⟩) hg5 rfl rfl rfl hl.1 (Nat.le_of_ble_eq_true rfl) dX7_authorise_47 ⟨by decide, by decide⟩ (fun H locs Y => ?_)
          have hlt9 := limN_lt hwf ja
          refine n_icmp_le hx hb 55 (by omega) (by omega) dX7_authorise_50 (by decide) (fun c50 => ?_) (fun c50 => ?_)
          · have c50x : jd ≤ limN σ ja := by omega
            refine m_new (C := RX5) (T := TX5) (N := 7) (ci := 6) X Y hA htX7_authorise_wsX502 tyX5 tyX5_ok kwX7_authorise_3 kwX7_authorise_4 kwX7_authorise_5 rfl (fs := [.int 0, .null, .null, .int 0, .int 0, .int 0, .int 0]) (fun j hj => by rcases (show j = 0 ∨ j = 1 ∨ j = 2 ∨ j = 3 ∨ j = 4 ∨ j = 5 ∨ j = 6 by omega) with rfl | rfl | rfl | rfl | rfl | rfl | rfl <;> rfl) (by decide) (by decide) dX7_authorise_55 (fun q14 H fq14 Y => ?_)
            obtain ⟨M15, eM15⟩ : ∃ zz9 : Mp, zz9 = mu M q14 (.inr (6, [.int 0, .null, .null, .int 0, .int 0, .int 0, .int 0])) := ⟨_, rfl⟩
            replace Y : mY D A M15 s H locs := by rw [eM15]; exact Y
            have hh16 : M15 (g.1 7 0) = some (.inr (8, [.ref (g.1 8 0), .ref (g.1 8 1), .ref (g.1 8 2), .ref (g.1 8 3), .ref (g.1 9 0), .ref (g.1 9 1), .ref (g.1 9 2), .int (nI (tD σ))])) := by rw [eM15, mu_ne _ _ (ne_fresh hg5 fq14)]; exact hg5
            have hh17 : M15 (g.1 9 0) = some (.inr (0, [.int (g.2.2.2 0), .ref (lar e0 σ g 0), .int (nI (nP σ))])) := by rw [eM15, mu_ne _ _ (ne_fresh hg11 fq14)]; exact hg11
            have hh18 : M15 q14 = some (.inr (6, [.int 0, .null, .null, .int 0, .int 0, .int 0, .int 0])) := by rw [eM15]; exact mu_self _ _ _
            refine lv_dup hx hb dX7_authorise_58 rfl ?_
            refine lv_aload_n hx hb dX7_authorise_59 rfl (lv_at hl 2 rfl) ?_
            refine m_get (ref := "CardPort") (C := RX7) (T := TX7) (N := 8) (ci := 8) X Y htX7_authorise_wsX701 hh16 rfl 4 (by decide) kwX7_authorise_2 rfl (v := .ref (g.1 9 0)) rfl dX7_authorise_60 ?_
            refine m_rFi (As := []) (rest := [.ref q14, .ref q14]) X Y hA hcx (c_size l D kc A e0 M15 (g.1 9 0) (lar e0 σ g 0) (nP σ) (g.2.2.2 0) hh17) (va_cwF 0 X.1.2.2.2.2 gX7_authorise_Jx4a65c_size_8abf5_f94Jx4a65c rfl rfl rfl hcx.1.2.2.2.2.2.2.1 (by decide +kernel) ⟨Nat.le_of_ble_eq_true rfl, Nat.le_of_ble_eq_true rfl⟩) hh17 rfl rfl rfl hl.1 (Nat.le_of_ble_eq_true rfl) dX7_authorise_63 ⟨by decide, by decide⟩ (fun H locs Y => ?_)
            refine lv_aload hx hb dX7_authorise_68 (lv_at hl 1 rfl) ?_
            refine lv_aload hx hb dX7_authorise_70 (lv_at hl 0 rfl) ?_
            refine lv_iload_n hx hb dX7_authorise_72 rfl (lv_at hl 5 rfl) ?_
            refine lv_aload_n hx hb dX7_authorise_73 rfl (lv_at hl 2 rfl) ?_
            refine m_get (ref := "CardPort") (C := RX7) (T := TX7) (N := 8) (ci := 8) X Y htX7_authorise_wsX701 hh16 rfl 7 (by decide) kwX7_authorise_6 rfl (v := .int (nI (tD σ))) rfl dX7_authorise_74 ?_
            refine n_bipush hx hb 7 dX7_authorise_77 (by decide) ?_
            refine n_iadd hx hb dX7_authorise_79 ?_
            refine m_Iv (As := [.int (nI (nP σ)), .ref (g.1 2 ja), .ref (g.1 6 jb), .int (nI jd), .int (nI ((tD σ) + 7))]) (rest := [.ref q14]) X Y hA hcx (c_X5_init l D kc A e0 M15 q14 (nP σ) (g.1 2 ja) (g.1 6 jb) jd (tD σ + 7) 0 0 0 0 0 hh18) (cwI 5 X.1.2.2.2.2 gX7_authorise_X5_init rfl rfl rfl (X.1.2.2.2.2 _ kwX7_authorise_5) (X.1.2.2.2.2 _ kwX7_authorise_67) (X.1.2.2.2.2 _ kwX7_authorise_68) rfl (by decide +kernel) ⟨Nat.le_of_ble_eq_true rfl, Nat.le_of_ble_eq_true rfl⟩) rfl rfl hl.1 (Nat.le_of_ble_eq_true rfl) dX7_authorise_80 ⟨by decide, by decide⟩ (fun M19 H locs p20 Y => ?_)
            have hh21 : M19 (g.1 7 0) = some (.inr (8, [.ref (g.1 8 0), .ref (g.1 8 1), .ref (g.1 8 2), .ref (g.1 8 3), .ref (g.1 9 0), .ref (g.1 9 1), .ref (g.1 9 2), .int (nI (tD σ))])) := by rw [p20, mu_ne _ _ (ne_fresh hg5 fq14)]; exact hh16
            have hh22 : M19 (g.1 9 0) = some (.inr (0, [.int (g.2.2.2 0), .ref (lar e0 σ g 0), .int (nI (nP σ))])) := by rw [p20, mu_ne _ _ (ne_fresh hg11 fq14)]; exact hh17
            have hh23 : M19 q14 = some (.inr (6, [.int (nI (nP σ)), .ref (g.1 2 ja), .ref (g.1 6 jb), .int (nI jd), .int (nI (tD σ + 7)), .int (nI 0), .int (nI 0)])) := by rw [p20]; exact mu_self _ _ _
            have p20q : M19 = mu M q14 (.inr (6, [.int (nI (nP σ)), .ref (g.1 2 ja), .ref (g.1 6 jb), .int (nI jd), .int (nI (tD σ + 7)), .int (nI 0), .int (nI 0)])) := by rw [p20, eM15, mu_mu]
            refine lv_astore (lv' := [(6, .ref q14), (5, .ref (g.1 6 jb)), (4, .ref (g.1 2 ja)), (0, .ref (g.1 7 0)), (1, .int (nI ja)), (2, .int (nI jb)), (3, .int (nI jd))]) hx hb dX7_authorise_83 hl (by decide) rfl (fun ls hl => ?_)
            refine lv_aload_n hx hb dX7_authorise_85 rfl (lv_at hl 3 rfl) ?_
            refine m_get (ref := "CardPort") (C := RX7) (T := TX7) (N := 8) (ci := 8) X Y htX7_authorise_wsX701 hh21 rfl 4 (by decide) kwX7_authorise_2 rfl (v := .ref (g.1 9 0)) rfl dX7_authorise_86 ?_
            refine lv_aload hx hb dX7_authorise_89 (lv_at hl 0 rfl) ?_
            refine m_Fi (As := [.ref q14]) (rest := []) X Y hA hcx (c_add l D kc A e0 M19 6 _ _ _ rfl (by decide) (g.1 9 0) (lar e0 σ g 0) (nP σ) (g.2.1 0) q14 _ (g.2.2.2 0) (g.2.2.1 0) hh22 hh23 (by decide) (by rw [p20q]; exact lsOk_new (hG.ls0 (hpr 9 (by decide)) (hpr 10 (by decide)) (hpr 5 (by decide)) (by omega)) fq14)) (va_cwF 1 X.1.2.2.2.2 gX7_authorise_Jx4a65c_add_9ea2d_f113Jx4a65c rfl rfl rfl hcx.1.2.2.2.2.2.2.2.2.1 (by decide +kernel) ⟨Nat.le_of_ble_eq_true rfl, Nat.le_of_ble_eq_true rfl⟩) hh22 rfl rfl rfl hl.1 (Nat.le_of_ble_eq_true rfl) dX7_authorise_91 ⟨by decide, by decide⟩ (fun r24 M25 H locs p26 Y => ?_)
            have had := p26.2
            rw [p20q] at had
            obtain ⟨g', hkg, hag, hgx, hG9⟩ := hG.growP hwf hpr fq14 had
            have hq9 := hG9.f5 (hpr 5 (by decide)) (i := nP σ) (show nP σ < nP σ + 1 by omega)
            rw [hgx] at hq9
            refine lv_pop hx hb dX7_authorise_96 rfl ?_
            refine lv_aload hx hb dX7_authorise_97 (lv_at hl 0 rfl) ?_
            refine m_get (ref := "CardPort$Payment") (C := RX5) (T := TX5) (N := 7) (ci := 6) X Y htX7_authorise_wsX502 hq9 rfl 0 (by decide) kwX7_authorise_7 rfl (v := .int (nI (nP σ))) rfl dX7_authorise_99 ?_
            refine vx_ret (m_iret X Y hr hlocks (by decide) (by decide) ?_ dX7_authorise_102)
            exact PC_i (by simp only [sp_authorise, hva, ix_nI hla, hvb, ix_nI hlb, hrd, ix_nI hld, Bool.and_self, Bool.and_true, Bool.and_false, Bool.false_and, Bool.true_and, Bool.false_eq_true, reduceIte]; rw [if_pos c32x, if_pos c50x]) hkg hG9
          · have c50x : ¬ jd ≤ limN σ ja := by omega
            refine lv_iconst (v := -1) hx hb dX7_authorise_53 (by decide) ?_
            refine vx_ret (m_iret X Y hr hlocks (by decide) (by decide) ?_ dX7_authorise_54)
            exact PC_i (by simp only [sp_authorise, hva, ix_nI hla, hvb, ix_nI hlb, hrd, ix_nI hld, Bool.and_self, Bool.and_true, Bool.and_false, Bool.false_and, Bool.true_and, Bool.false_eq_true, reduceIte]; rw [if_pos c32x, if_neg c50x]) (KG.rf g) hG
