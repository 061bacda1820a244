def pb1 (σ : Sg) (d k : Nat) : Sg := (up2 σ.1 0 0 (tD σ + d), fun t i => if t = 1 ∧ i < k then 0 else σ.2 t i)
def pb2 (σ : Sg) (d k : Nat) : Sg := (fun t i => if t = 0 ∧ i = 0 then tD σ + d else if t = 17 ∧ i < k then eil (σ.1 17 i) (σ.1 20 i) (tD σ + d) else σ.1 t i, fun t i => if t = 1 ∧ i < 4 then 0 else σ.2 t i)
theorem pb1_0 (σ : Sg) (d : Nat) : pb1 σ d 0 = (up2 σ.1 0 0 (tD σ + d), σ.2) := by
  unfold pb1; congr 1; funext t i; simp
theorem pb2_0 (σ : Sg) (d : Nat) : pb2 σ d 0 = pb1 σ d 4 := by
  unfold pb2 pb1; congr 1; funext t i; simp [up2]
theorem pb2_e (σ : Sg) (d : Nat) : pb2 σ d (nB σ) = pasS σ d := rfl
theorem pb1_s (σ : Sg) (d k : Nat) : ((pb1 σ d k).1, up2 (pb1 σ d k).2 1 k 0) = pb1 σ d (k + 1) := by
  unfold pb1; congr 1; funext t i
  have e9 : i < k + 1 ↔ (i < k ∨ i = k) := by omega
  simp only [up2, e9]
  by_cases h1 : t = 1 <;> by_cases hi : i = k <;> by_cases hk : i < k <;> simp_all
theorem pb2_s (σ : Sg) (d k v : Nat) (h : eil (σ.1 17 k) (σ.1 20 k) (tD σ + d) = v) : (up2 (pb2 σ d k).1 17 k v, (pb2 σ d k).2) = pb2 σ d (k + 1) := by
  subst h
  unfold pb2; congr 1; funext t i
  have e9 : i < k + 1 ↔ (i < k ∨ i = k) := by omega
  simp only [up2, e9]
  by_cases h1 : t = 17 <;> by_cases hi : i = k <;> by_cases hk : i < k <;> simp_all
theorem kwX8_pass_1 : Cond.fieldLink RX8 114 "CardPortModel" "day" "I" ∈ wsX8_pass := List.mem_of_getElem? (i := 1) rfl
theorem htX8_pass_wsX801 : ∀ w ∈ wsX80, w ∈ wsX8_pass := fun _ h => List.mem_cons_of_mem _ (List.mem_append_right _ h)
theorem kwX8_pass_3 : Cond.fieldLink RX8 136 "CardPortModel" "chargebacks" "I" ∈ wsX8_pass := List.mem_of_getElem? (i := 3) rfl
theorem kwX8_pass_4 : Cond.fieldLink RX8 59 "CardPortModel" "until" "[I" ∈ wsX8_pass := List.mem_of_getElem? (i := 4) rfl
theorem kwX8_pass_5 : Cond.fieldLink RX8 50 "CardPortModel" "state" "[I" ∈ wsX8_pass := List.mem_of_getElem? (i := 5) rfl
theorem kwX8_pass_2 : Cond.fieldLink RX8 66 "CardPortModel" "today" "[J" ∈ wsX8_pass := List.mem_of_getElem? (i := 2) rfl
set_option maxHeartbeats 4000000 in
set_option maxRecDepth 100000 in
theorem c_X8_pass (l : Launch) (D : va_G) (kc : Nat → ClassId) (A : Nat → Prop) (e0 : Nat × Nat) (M : Mp) {pr : Nat → Prop} {σ τ : Sg} {th : Int32} {o : Int64} {g : Gh} {nn : Nat} (hG : G pr kc e0 σ τ th o g M) (hwf : WS nn τ) (hpr : ∀ t, t ≤ 13 → pr t) (a : Int32) : Met l yX8_pass wsX8_pass ({ frames := 1, cells := 0, slots := 0, locals := 22 }) (mPre D kc A e0 M [.ref (g.1 11 0), .int a]) (va_Qi (MC pr kc e0 σ o g (sp_pass τ a)) (mB D A) A) 0 0 A := by
  refine Met.ofW (cc := cX8_pass) (maxL := 4) (ret := (some .int)) (by decide) rfl ?_
  intro p e s m args below meth c s₁ B hml hv
  obtain ⟨rfl, hw, hK, hA, hcx⟩ := hv
  have X : mX p s m _ c cX8_pass 4 RX8 wsX8_pass D kc := ⟨⟨B.exec, B.bytes, hml, findClass_of_methodNamed B.named, atoms_spec (ws := wsX8_pass) B.pre⟩, hK⟩
  have hx := B.exec
  have hb := B.bytes
  have hr := B.returns
  have hlocks := B.notSynchronized
  have Y : mY D A M s s.heap [] := ⟨hw, va_S.rf⟩
  have hl := lv_entry ([.ref (g.1 11 0), .int a]) (n := 4) (Nat.le_of_ble_eq_true rfl)
  rw [lg_entry_eq]
  generalize (lg_sl ([.ref (g.1 11 0), .int a]) ++ List.replicate (4 - (lg_sl ([.ref (g.1 11 0), .int a])).length) Slot.unset).toArray = ls at hl ⊢
  have hl : lv_has ls 4 [(0, .ref (g.1 11 0)), (1, .int a)] := hl
  have hwn := hwf.2.2.2.1
  have hwd := hwf.1
  cases hra : rI a 1 100 with
  | false =>
    refine lv_aload_n hx hb dX8_pass_0 rfl (lv_at hl 0 rfl) ?_
    refine lv_iload_n hx hb dX8_pass_1 rfl (lv_at hl 1 rfl) ?_
    refine n_iconst hx hb 1 dX8_pass_2 (by decide) ?_
    refine n_bipush hx hb 100 dX8_pass_3 (by decide) ?_
    refine m_rSi (As := [.int a, .int (nI 1), .int (nI 100)]) (rest := [.ref (g.1 11 0)]) X Y hA hcx (c_m_isIn l D kc A e0 M a 1 (nI 100)) (va_cwS 3 X.1.2.2.2.2 gX8_pass_X8_isIn rfl rfl rfl (by decide +kernel) ⟨Nat.le_of_ble_eq_true rfl, Nat.le_of_ble_eq_true rfl⟩) rfl rfl hl.1 (Nat.le_of_ble_eq_true rfl) dX8_pass_5 ⟨by decide, by decide⟩ (fun H locs Y => ?_)
    refine n_top (bN_c (isIn_rI (by decide) (by decide))) ?_
    refine n_top (bN_f (by rw [hra]; decide)) ?_
    refine n_if_eq hx hb 15 (by omega) dX8_pass_8 (by decide) (fun _ => ?_) (fun zq => absurd zq (by decide))
    refine n_iconst hx hb 1 dX8_pass_15 (by decide) ?_
    have hg1 := hG.f11 (hpr 11 (by decide))
    refine m_Vi (As := [.int (nI 1)]) (rest := []) X Y hA hcx (c_m_fails l D kc A e0 M hG hwf hpr 1 (by decide)) (cwV 1 X.1.2.2.2.2 gX8_pass_X8_fails rfl rfl rfl (by decide +kernel) ⟨Nat.le_of_ble_eq_true rfl, Nat.le_of_ble_eq_true rfl⟩) hg1 rfl rfl rfl hl.1 (Nat.le_of_ble_eq_true rfl) dX8_pass_16 ⟨by decide, by decide⟩ (fun r2 M3 H locs p4 Y => ?_)
    obtain ⟨hr9, hG5⟩ := p4
    refine n_top (hr9.trans (bN_t (by decide))) ?_
    refine n_if_eq hx hb 24 (by omega) dX8_pass_19 (by decide) (fun zq => absurd zq (by decide)) (fun _ => ?_)
    refine n_iconst hx hb 0 dX8_pass_22 (by decide) ?_
    refine m_iret X Y hr hlocks (by decide) (by decide) ?_ dX8_pass_23
    exact MC_i (c := 1) (by (simp only [sp_pass, hra, Bool.and_self, Bool.and_true, Bool.and_false, Bool.false_and, Bool.true_and, Bool.false_eq_true, reduceIte]) <;> rfl) hG5
  | true =>
    obtain ⟨ja, haa, hba, hla, rfl⟩ := rI_t hra
    refine lv_aload_n hx hb dX8_pass_0 rfl (lv_at hl 0 rfl) ?_
    refine lv_iload_n hx hb dX8_pass_1 rfl (lv_at hl 1 rfl) ?_
    refine n_iconst hx hb 1 dX8_pass_2 (by decide) ?_
    refine n_bipush hx hb 100 dX8_pass_3 (by decide) ?_
    refine m_rSi (As := [.int (nI ja), .int (nI 1), .int (nI 100)]) (rest := [.ref (g.1 11 0)]) X Y hA hcx (c_m_isIn l D kc A e0 M (nI ja) 1 (nI 100)) (va_cwS 3 X.1.2.2.2.2 gX8_pass_X8_isIn rfl rfl rfl (by decide +kernel) ⟨Nat.le_of_ble_eq_true rfl, Nat.le_of_ble_eq_true rfl⟩) rfl rfl hl.1 (Nat.le_of_ble_eq_true rfl) dX8_pass_5 ⟨by decide, by decide⟩ (fun H locs Y => ?_)
    refine n_top (bN_c (isIn_rI (by decide) (by decide))) ?_
    refine n_top (bN_t hra) ?_
    refine n_if_eq hx hb 15 (by omega) dX8_pass_8 (by decide) (fun zq => absurd zq (by decide)) (fun _ => ?_)
    refine n_iconst hx hb 0 dX8_pass_11 (by decide) ?_
    refine lv_goto (tgt := 16) hx hb dX8_pass_12 (by decide) ?_
    have hg6 := hG.f11 (hpr 11 (by decide))
    refine m_Vi (As := [.int (nI 0)]) (rest := []) X Y hA hcx (c_m_fails l D kc A e0 M hG hwf hpr 0 (by decide)) (cwV 1 X.1.2.2.2.2 gX8_pass_X8_fails rfl rfl rfl (by decide +kernel) ⟨Nat.le_of_ble_eq_true rfl, Nat.le_of_ble_eq_true rfl⟩) hg6 rfl rfl rfl hl.1 (Nat.le_of_ble_eq_true rfl) dX8_pass_16 ⟨by decide, by decide⟩ (fun r7 M8 H locs p9 Y => ?_)
    obtain ⟨hr9, hG10⟩ := p9
    refine n_top (hr9.trans (bN_f (by decide))) ?_
    refine n_if_eq hx hb 24 (by omega) dX8_pass_19 (by decide) (fun _ => ?_) (fun zq => absurd zq (by decide))
    refine lv_aload_n hx hb dX8_pass_24 rfl (lv_at hl 0 rfl) ?_
    refine lv_dup hx hb dX8_pass_25 rfl ?_
    have hg11 := hG10.f11 (hpr 11 (by decide))
    refine m_get (ref := "CardPortModel") (C := RX8) (T := TX8) (N := 25) (ci := 9) X Y htX8_pass_wsX801 hg11 rfl 0 (by decide) kwX8_pass_1 rfl (v := .int (nI (tD τ))) rfl dX8_pass_26 ?_
    refine lv_iload_n hx hb dX8_pass_29 rfl (lv_at hl 1 rfl) ?_
    refine n_iadd hx hb dX8_pass_30 ?_
    refine m_put (ref := "CardPortModel") (C := RX8) (T := TX8) (N := 25) (ci := 9) X Y htX8_pass_wsX801 tyX8 tyX8_ok nmX8 hg11 rfl 0 (by decide) kwX8_pass_1 rfl rfl (v := .int (nI ((tD τ) + ja))) rfl rfl (Nat.le_of_ble_eq_true rfl) dX8_pass_31 (fun H locs Y => ?_)
    obtain ⟨M12, eM12⟩ : ∃ zz9 : Mp, zz9 = mu M8 (g.1 11 0) (.inr (9, [.int (nI ((tD τ) + ja)), .ref (g.1 12 1), .ref (g.1 12 2), .ref (g.1 12 3), .int (nI (nP τ)), .ref (g.1 12 5), .ref (g.1 12 6), .ref (g.1 12 7), .ref (g.1 12 8), .ref (g.1 12 9), .ref (g.1 12 10), .int (nI (nC τ)), .ref (g.1 12 12), .ref (g.1 12 13), .ref (g.1 12 14), .ref (g.1 12 15), .int (nI (nB τ)), .ref (g.1 12 17), .ref (g.1 12 18), .ref (g.1 12 19), .ref (g.1 12 20), .int (nI (τ.1 21 0)), .ref (g.1 12 22), .ref (g.1 12 23), .int (nI 0)])) := ⟨_, rfl⟩
    replace Y : mY D A M12 s H locs := by rw [eM12]; exact Y
    have hh13 : M12 (g.1 11 0) = some (.inr (9, [.int (nI ((tD τ) + ja)), .ref (g.1 12 1), .ref (g.1 12 2), .ref (g.1 12 3), .int (nI (nP τ)), .ref (g.1 12 5), .ref (g.1 12 6), .ref (g.1 12 7), .ref (g.1 12 8), .ref (g.1 12 9), .ref (g.1 12 10), .int (nI (nC τ)), .ref (g.1 12 12), .ref (g.1 12 13), .ref (g.1 12 14), .ref (g.1 12 15), .int (nI (nB τ)), .ref (g.1 12 17), .ref (g.1 12 18), .ref (g.1 12 19), .ref (g.1 12 20), .int (nI (τ.1 21 0)), .ref (g.1 12 22), .ref (g.1 12 23), .int (nI 0)])) := by rw [eM12]; exact mu_self _ _ _
    have hG14 : G pr kc e0 σ ((up2 τ.1 0 0 ((tD τ) + ja)), τ.2) (nI 0) o g M12 := by rw [eM12]; exact hG10.setF (hpr 11 (by decide)) (k := 0) (v := (tD τ) + ja) (by decide)
    refine n_iconst hx hb 0 dX8_pass_34 (by decide) ?_
    refine lv_istore_n (lv' := [(2, .int (nI 0)), (0, .ref (g.1 11 0)), (1, .int (nI ja))]) hx hb dX8_pass_35 rfl hl (by decide) rfl (fun ls hl => ?_)
    obtain ⟨k, hk0⟩ : ∃ k : Nat, k = 0 := ⟨_, rfl⟩
    have hG1 : G pr kc e0 σ (pb1 τ ja k) (nI 0) o g M12 := by rw [hk0]; rw [pb1_0]; exact hG14
    replace hl : lv_has ls 4 [(2, .int (nI k)), (0, .ref (g.1 11 0)), (1, .int (nI ja))] := by
      rw [hk0]; exact hl
    replace hl : lv_has ls 4 [(0, .ref (g.1 11 0)), (1, .int (nI ja)), (2, .int (nI k))] := lv_sub hl [1, 2, 0] rfl
    have hk : k ≤ 4 := by omega
    clear hk0
    obtain ⟨MM15, hM1⟩ : ∃ zz : Mp, zz = M12 := ⟨_, rfl⟩
    rw [← hM1] at Y hG1
    clear hM1
    obtain ⟨fu, hfu⟩ : ∃ fu : Nat, fu = 4 - k := ⟨_, rfl⟩
    induction fu generalizing k MM15 H locs ls with
    | zero =>
      obtain rfl : k = 4 := by omega
      refine lv_iload_n hx hb dX8_pass_36 rfl (lv_at hl 2 rfl) ?_
      refine n_iconst hx hb 4 dX8_pass_37 (by decide) ?_
      refine n_icmp_ge hx hb 54 (by omega) (by omega) dX8_pass_38 (by decide) (fun _ => ?_) (fun zq => absurd zq (by omega))
      refine n_iconst hx hb 0 dX8_pass_54 (by decide) ?_
      refine lv_istore_n (lv' := [(2, .int (nI 0)), (0, .ref (g.1 11 0)), (1, .int (nI ja))]) hx hb dX8_pass_55 rfl hl (by decide) rfl (fun ls hl => ?_)
      clear hfu
      obtain ⟨k, hk0⟩ : ∃ k : Nat, k = 0 := ⟨_, rfl⟩
      have hG1 : G pr kc e0 σ (pb2 τ ja k) (nI 0) o g MM15 := by rw [hk0]; rw [pb2_0]; exact hG1
      replace hl : lv_has ls 4 [(2, .int (nI k)), (0, .ref (g.1 11 0)), (1, .int (nI ja))] := by
        rw [hk0]; exact hl
      replace hl : lv_has ls 4 [(0, .ref (g.1 11 0)), (1, .int (nI ja)), (2, .int (nI k))] := lv_sub hl [1, 2, 0] rfl
      have hk : k ≤ nB τ := by omega
      clear hk0
      obtain ⟨MM16, hM1⟩ : ∃ zz : Mp, zz = MM15 := ⟨_, rfl⟩
      rw [← hM1] at Y hG1
      clear hM1
      obtain ⟨fu, hfu⟩ : ∃ fu : Nat, fu = nB τ - k := ⟨_, rfl⟩
      induction fu generalizing k MM16 H locs ls with
      | zero =>
        obtain rfl : k = nB τ := by omega
        refine lv_iload_n hx hb dX8_pass_56 rfl (lv_at hl 2 rfl) ?_
        refine lv_aload_n hx hb dX8_pass_57 rfl (lv_at hl 0 rfl) ?_
        have hg17 := hG1.f11 (hpr 11 (by decide))
        refine m_get (ref := "CardPortModel") (C := RX8) (T := TX8) (N := 25) (ci := 9) X Y htX8_pass_wsX801 hg17 rfl 16 (by decide) kwX8_pass_3 rfl (v := .int (nI (nB τ))) rfl dX8_pass_58 ?_
        refine n_icmp_ge hx hb 136 (by omega) (by omega) dX8_pass_61 (by decide) (fun _ => ?_) (fun zq => absurd zq (by omega))
        refine lv_aload_n hx hb dX8_pass_136 rfl (lv_at hl 0 rfl) ?_
        refine m_get (ref := "CardPortModel") (C := RX8) (T := TX8) (N := 25) (ci := 9) X Y htX8_pass_wsX801 hg17 rfl 0 (by decide) kwX8_pass_1 rfl (v := .int (nI (tD τ + ja))) rfl dX8_pass_137 ?_
        refine m_iret X Y hr hlocks (by decide) (by decide) ?_ dX8_pass_140
        rw [pb2_e] at hG1
        exact MC_i (c := 0) (by (simp only [sp_pass, hra, ix_nI hla, Bool.and_self, Bool.and_true, Bool.and_false, Bool.false_and, Bool.true_and, Bool.false_eq_true, reduceIte]) <;> rfl) hG1
      | succ fu ih =>
        have hw9 := hwf.2.2.2.2.2.2.2.2 k (by omega)
        refine lv_iload_n hx hb dX8_pass_56 rfl (lv_at hl 2 rfl) ?_
        refine lv_aload_n hx hb dX8_pass_57 rfl (lv_at hl 0 rfl) ?_
        have hg18 := hG1.f11 (hpr 11 (by decide))
        refine m_get (ref := "CardPortModel") (C := RX8) (T := TX8) (N := 25) (ci := 9) X Y htX8_pass_wsX801 hg18 rfl 16 (by decide) kwX8_pass_3 rfl (v := .int (nI (nB τ))) rfl dX8_pass_58 ?_
        refine n_icmp_ge hx hb 136 (by omega) (by omega) dX8_pass_61 (by decide) (fun zq => absurd zq (by omega)) (fun _ => ?_)
        refine lv_aload_n hx hb dX8_pass_64 rfl (lv_at hl 0 rfl) ?_
        refine m_get (ref := "CardPortModel") (C := RX8) (T := TX8) (N := 25) (ci := 9) X Y htX8_pass_wsX801 hg18 rfl 20 (by decide) kwX8_pass_4 rfl (v := .ref (g.1 12 20)) rfl dX8_pass_65 ?_
        refine lv_iload_n hx hb dX8_pass_68 rfl (lv_at hl 2 rfl) ?_
        refine g_iald X Y hG1 (hpr 12 (by decide)) (k := 20) (by decide) (j := k) (show k < 60 by omega) (v := τ.1 20 k) (by simp [pb2]) dX8_pass_69 ?_
        refine lv_aload_n hx hb dX8_pass_70 rfl (lv_at hl 0 rfl) ?_
        refine m_get (ref := "CardPortModel") (C := RX8) (T := TX8) (N := 25) (ci := 9) X Y htX8_pass_wsX801 hg18 rfl 0 (by decide) kwX8_pass_1 rfl (v := .int (nI (tD τ + ja))) rfl dX8_pass_71 ?_
        refine n_icmp_ge hx hb 81 (by omega) (by omega) dX8_pass_74 (by decide) (fun c74 => ?_) (fun c74 => ?_)
        · refine n_iconst hx hb 0 dX8_pass_81 (by decide) ?_
          refine lv_istore_n (lv' := [(3, .int (nI 0)), (0, .ref (g.1 11 0)), (1, .int (nI ja)), (2, .int (nI k))]) hx hb dX8_pass_82 rfl hl (by decide) rfl (fun ls hl => ?_)
          refine lv_aload_n hx hb dX8_pass_83 rfl (lv_at hl 1 rfl) ?_
          refine m_get (ref := "CardPortModel") (C := RX8) (T := TX8) (N := 25) (ci := 9) X Y htX8_pass_wsX801 hg18 rfl 17 (by decide) kwX8_pass_5 rfl (v := .ref (g.1 12 17)) rfl dX8_pass_84 ?_
          refine lv_iload_n hx hb dX8_pass_87 rfl (lv_at hl 3 rfl) ?_
          refine lv_iload_n hx hb dX8_pass_88 rfl (lv_at hl 0 rfl) ?_
          refine n_if_eq hx hb 105 (by omega) dX8_pass_89 (by decide) (fun _ => ?_) (fun zq => absurd zq (by decide))
          refine lv_iload_n hx hb dX8_pass_105 rfl (lv_at hl 0 rfl) ?_
          refine n_if_eq hx hb 123 (by omega) dX8_pass_106 (by decide) (fun _ => ?_) (fun zq => absurd zq (by decide))
          refine lv_aload_n hx hb dX8_pass_123 rfl (lv_at hl 1 rfl) ?_
          refine m_get (ref := "CardPortModel") (C := RX8) (T := TX8) (N := 25) (ci := 9) X Y htX8_pass_wsX801 hg18 rfl 17 (by decide) kwX8_pass_5 rfl (v := .ref (g.1 12 17)) rfl dX8_pass_124 ?_
          refine lv_iload_n hx hb dX8_pass_127 rfl (lv_at hl 3 rfl) ?_
          refine g_iald X Y hG1 (hpr 12 (by decide)) (k := 17) (by decide) (j := k) (show k < 60 by omega) (v := τ.1 17 k) (by simp [pb2]) dX8_pass_128 ?_
          refine g_iast X Y hG1 (hpr 12 (by decide)) (k := 17) (by decide) (j := k) (v := τ.1 17 k) (show k < 60 by omega) dX8_pass_129 (fun M19 H locs hG20 Y => ?_)
          refine lv_iinc (v := (nI (k + 1))) (lv' := [(2, .int (nI (k + 1))), (3, .int (nI 0)), (0, .ref (g.1 11 0)), (1, .int (nI ja))]) hx hb dX8_pass_130 hl (k := 3) rfl (nI_add _ 1) (by decide) rfl (fun ls hl => ?_)
          refine lv_goto (tgt := 56) hx hb dX8_pass_133 (by decide) ?_
          have hG2 : G pr kc e0 σ (pb2 τ ja (k + 1)) (nI 0) o g M19 := by rw [← pb2_s τ ja k (τ.1 17 k) (by unfold eil; split <;> omega)]; exact hG20
          exact ih (k := k + 1) (MM16 := M19) (Y := Y) (hl := (lv_sub hl [2, 3, 0] rfl)) (hfu := by omega) (hk := by omega) (hG1 := hG2)
        · refine n_iconst hx hb 1 dX8_pass_77 (by decide) ?_
          refine lv_goto (tgt := 82) hx hb dX8_pass_78 (by decide) ?_
          refine lv_istore_n (lv' := [(3, .int (nI 1)), (0, .ref (g.1 11 0)), (1, .int (nI ja)), (2, .int (nI k))]) hx hb dX8_pass_82 rfl hl (by decide) rfl (fun ls hl => ?_)
          refine lv_aload_n hx hb dX8_pass_83 rfl (lv_at hl 1 rfl) ?_
          refine m_get (ref := "CardPortModel") (C := RX8) (T := TX8) (N := 25) (ci := 9) X Y htX8_pass_wsX801 hg18 rfl 17 (by decide) kwX8_pass_5 rfl (v := .ref (g.1 12 17)) rfl dX8_pass_84 ?_
          refine lv_iload_n hx hb dX8_pass_87 rfl (lv_at hl 3 rfl) ?_
          refine lv_iload_n hx hb dX8_pass_88 rfl (lv_at hl 0 rfl) ?_
          refine n_if_eq hx hb 105 (by omega) dX8_pass_89 (by decide) (fun zq => absurd zq (by decide)) (fun _ => ?_)
          refine lv_aload_n hx hb dX8_pass_92 rfl (lv_at hl 1 rfl) ?_
          refine m_get (ref := "CardPortModel") (C := RX8) (T := TX8) (N := 25) (ci := 9) X Y htX8_pass_wsX801 hg18 rfl 17 (by decide) kwX8_pass_5 rfl (v := .ref (g.1 12 17)) rfl dX8_pass_93 ?_
          refine lv_iload_n hx hb dX8_pass_96 rfl (lv_at hl 3 rfl) ?_
          refine g_iald X Y hG1 (hpr 12 (by decide)) (k := 17) (by decide) (j := k) (show k < 60 by omega) (v := τ.1 17 k) (by simp [pb2]) dX8_pass_97 ?_
          refine n_if_ne hx hb 105 (by omega) dX8_pass_98 (by decide) (fun c98 => ?_) (fun c98 => ?_)
          · refine lv_iload_n hx hb dX8_pass_105 rfl (lv_at hl 0 rfl) ?_
            refine n_if_eq hx hb 123 (by omega) dX8_pass_106 (by decide) (fun zq => absurd zq (by decide)) (fun _ => ?_)
            refine lv_aload_n hx hb dX8_pass_109 rfl (lv_at hl 1 rfl) ?_
            refine m_get (ref := "CardPortModel") (C := RX8) (T := TX8) (N := 25) (ci := 9) X Y htX8_pass_wsX801 hg18 rfl 17 (by decide) kwX8_pass_5 rfl (v := .ref (g.1 12 17)) rfl dX8_pass_110 ?_
            refine lv_iload_n hx hb dX8_pass_113 rfl (lv_at hl 3 rfl) ?_
            refine g_iald X Y hG1 (hpr 12 (by decide)) (k := 17) (by decide) (j := k) (show k < 60 by omega) (v := τ.1 17 k) (by simp [pb2]) dX8_pass_114 ?_
            refine n_iconst hx hb 1 dX8_pass_115 (by decide) ?_
            refine n_icmp_ne hx hb 123 (by omega) (by omega) dX8_pass_116 (by decide) (fun c116 => ?_) (fun c116 => ?_)
            · refine lv_aload_n hx hb dX8_pass_123 rfl (lv_at hl 1 rfl) ?_
              refine m_get (ref := "CardPortModel") (C := RX8) (T := TX8) (N := 25) (ci := 9) X Y htX8_pass_wsX801 hg18 rfl 17 (by decide) kwX8_pass_5 rfl (v := .ref (g.1 12 17)) rfl dX8_pass_124 ?_
              refine lv_iload_n hx hb dX8_pass_127 rfl (lv_at hl 3 rfl) ?_
              refine g_iald X Y hG1 (hpr 12 (by decide)) (k := 17) (by decide) (j := k) (show k < 60 by omega) (v := τ.1 17 k) (by simp [pb2]) dX8_pass_128 ?_
              refine g_iast X Y hG1 (hpr 12 (by decide)) (k := 17) (by decide) (j := k) (v := τ.1 17 k) (show k < 60 by omega) dX8_pass_129 (fun M21 H locs hG22 Y => ?_)
              refine lv_iinc (v := (nI (k + 1))) (lv' := [(2, .int (nI (k + 1))), (3, .int (nI 1)), (0, .ref (g.1 11 0)), (1, .int (nI ja))]) hx hb dX8_pass_130 hl (k := 3) rfl (nI_add _ 1) (by decide) rfl (fun ls hl => ?_)
              refine lv_goto (tgt := 56) hx hb dX8_pass_133 (by decide) ?_
              have hG2 : G pr kc e0 σ (pb2 τ ja (k + 1)) (nI 0) o g M21 := by rw [← pb2_s τ ja k (τ.1 17 k) (by unfold eil; split <;> omega)]; exact hG22
              exact ih (k := k + 1) (MM16 := M21) (Y := Y) (hl := (lv_sub hl [2, 3, 0] rfl)) (hfu := by omega) (hk := by omega) (hG1 := hG2)
            · refine n_iconst hx hb 4 dX8_pass_119 (by decide) ?_
              refine lv_goto (tgt := 129) hx hb dX8_pass_120 (by decide) ?_
              refine g_iast X Y hG1 (hpr 12 (by decide)) (k := 17) (by decide) (j := k) (v := 4) (show k < 60 by omega) dX8_pass_129 (fun M23 H locs hG24 Y => ?_)
              refine lv_iinc (v := (nI (k + 1))) (lv' := [(2, .int (nI (k + 1))), (3, .int (nI 1)), (0, .ref (g.1 11 0)), (1, .int (nI ja))]) hx hb dX8_pass_130 hl (k := 3) rfl (nI_add _ 1) (by decide) rfl (fun ls hl => ?_)
              refine lv_goto (tgt := 56) hx hb dX8_pass_133 (by decide) ?_
              have hG2 : G pr kc e0 σ (pb2 τ ja (k + 1)) (nI 0) o g M23 := by rw [← pb2_s τ ja k (4) (by unfold eil; split <;> omega)]; exact hG24
              exact ih (k := k + 1) (MM16 := M23) (Y := Y) (hl := (lv_sub hl [2, 3, 0] rfl)) (hfu := by omega) (hk := by omega) (hG1 := hG2)
          · refine n_iconst hx hb 3 dX8_pass_101 (by decide) ?_
            refine lv_goto (tgt := 129) hx hb dX8_pass_102 (by decide) ?_
            refine g_iast X Y hG1 (hpr 12 (by decide)) (k := 17) (by decide) (j := k) (v := 3) (show k < 60 by omega) dX8_pass_129 (fun M25 H locs hG26 Y => ?_)
            refine lv_iinc (v := (nI (k + 1))) (lv' := [(2, .int (nI (k + 1))), (3, .int (nI 1)), (0, .ref (g.1 11 0)), (1, .int (nI ja))]) hx hb dX8_pass_130 hl (k := 3) rfl (nI_add _ 1) (by decide) rfl (fun ls hl => ?_)
            refine lv_goto (tgt := 56) hx hb dX8_pass_133 (by decide) ?_
            have hG2 : G pr kc e0 σ (pb2 τ ja (k + 1)) (nI 0) o g M25 := by rw [← pb2_s τ ja k (3) (by unfold eil; split <;> omega)]; exact hG26
            exact ih (k := k + 1) (MM16 := M25) (Y := Y) (hl := (lv_sub hl [2, 3, 0] rfl)) (hfu := by omega) (hk := by omega) (hG1 := hG2)
    | succ fu ih =>
      refine lv_iload_n hx hb dX8_pass_36 rfl (lv_at hl 2 rfl) ?_
      refine n_iconst hx hb 4 dX8_pass_37 (by decide) ?_
      refine n_icmp_ge hx hb 54 (by omega) (by omega) dX8_pass_38 (by decide) (fun zq => absurd zq (by omega)) (fun _ => ?_)
      refine lv_aload_n hx hb dX8_pass_41 rfl (lv_at hl 0 rfl) ?_
      have hg27 := hG1.f11 (hpr 11 (by decide))
      refine m_get (ref := "CardPortModel") (C := RX8) (T := TX8) (N := 25) (ci := 9) X Y htX8_pass_wsX801 hg27 rfl 23 (by decide) kwX8_pass_2 rfl (v := .ref (g.1 12 23)) rfl dX8_pass_42 ?_
      refine lv_iload_n hx hb dX8_pass_45 rfl (lv_at hl 2 rfl) ?_
      refine lv_lconst (v := 0) hx hb dX8_pass_46 (by decide) ?_
      refine g_tlst X Y hG1 (hpr 12 (by decide)) (j := k) (show k < 4 by omega) (v := 0) rfl dX8_pass_47 (fun M28 H locs hG29 Y => ?_)
      refine lv_iinc (v := (nI (k + 1))) (lv' := [(2, .int (nI (k + 1))), (0, .ref (g.1 11 0)), (1, .int (nI ja))]) hx hb dX8_pass_48 hl (k := 2) rfl (nI_add _ 1) (by decide) rfl (fun ls hl => ?_)
      refine lv_goto (tgt := 36) hx hb dX8_pass_51 (by decide) ?_
      have hG2 : G pr kc e0 σ (pb1 τ ja (k + 1)) (nI 0) o g M28 := by rw [← pb1_s]; exact hG29
      exact ih (k := k + 1) (MM15 := M28) (Y := Y) (hl := (lv_sub hl [1, 2, 0] rfl)) (hfu := by omega) (hk := by omega) (hG1 := hG2)
theorem kwX8_due_1 : Cond.fieldLink RX8 136 "CardPortModel" "chargebacks" "I" ∈ wsX8_due := List.mem_of_getElem? (i := 1) rfl
theorem htX8_due_wsX801 : ∀ w ∈ wsX80, w ∈ wsX8_due := fun _ h => List.mem_cons_of_mem _ (List.mem_append_right _ h)
set_option maxHeartbeats 4000000 in
set_option maxRecDepth 100000 in
theorem c_X8_due (l : Launch) (D : va_G) (kc : Nat → ClassId) (A : Nat → Prop) (e0 : Nat × Nat) (M : Mp) {pr : Nat → Prop} {σ τ : Sg} {th : Int32} {o : Int64} {g : Gh} {nn : Nat} (hG : G pr kc e0 σ τ th o g M) (hwf : WS nn τ) (hpr : ∀ t, t ≤ 13 → pr t) (a : Int32) : Met l yX8_due wsX8_due ({ frames := 1, cells := 0, slots := 0, locals := 22 }) (mPre D kc A e0 M [.ref (g.1 11 0), .int a]) (va_Qi (MC pr kc e0 σ o g (sp_due τ a)) (mB D A) A) 0 0 A := by
  refine Met.ofW (cc := cX8_due) (maxL := 6) (ret := (some .int)) (by decide) rfl ?_
  intro p e s m args below meth c s₁ B hml hv
  obtain ⟨rfl, hw, hK, hA, hcx⟩ := hv
  have X : mX p s m _ c cX8_due 6 RX8 wsX8_due D kc := ⟨⟨B.exec, B.bytes, hml, findClass_of_methodNamed B.named, atoms_spec (ws := wsX8_due) B.pre⟩, hK⟩
  have hx := B.exec
  have hb := B.bytes
  have hr := B.returns
  have hlocks := B.notSynchronized
  have Y : mY D A M s s.heap [] := ⟨hw, va_S.rf⟩
  have hl := lv_entry ([.ref (g.1 11 0), .int a]) (n := 6) (Nat.le_of_ble_eq_true rfl)
  rw [lg_entry_eq]
  generalize (lg_sl ([.ref (g.1 11 0), .int a]) ++ List.replicate (6 - (lg_sl ([.ref (g.1 11 0), .int a])).length) Slot.unset).toArray = ls at hl ⊢
  have hl : lv_has ls 6 [(0, .ref (g.1 11 0)), (1, .int a)] := hl
  have hwn := hwf.2.2.2.1
  have hwd := hwf.1
  by_cases hz9 : 0 ≤ a.toInt
  · have hltx := Int32.toInt_lt a
    obtain ⟨ja, hja⟩ : ∃ ja : Nat, ja = ix a := ⟨_, rfl⟩
    have hjl : ja < 2147483648 := by rw [hja]; unfold ix; omega
    have hae : a = nI ja := by rw [hja]; exact nI_ix hz9
    have e9 : sp_due τ a = (0, duS τ ja (nB τ), τ) := by unfold sp_due; rw [if_pos hz9, ← hja]
    refine lv_aload_n hx hb dX8_due_0 rfl (lv_at hl 0 rfl) ?_
    refine lv_iload_n hx hb dX8_due_1 rfl (lv_at hl 1 rfl) ?_
    refine lv_if_ge (tgt := 9) hx hb dX8_due_2 (by decide) (fun _ => ?_) (fun zq => absurd (by rw [Int32.le_iff_toInt_le]; exact hz9) zq)
    refine n_iconst hx hb 0 dX8_due_9 (by decide) ?_
    have hg1 := hG.f11 (hpr 11 (by decide))
    refine m_Vi (As := [.int (nI 0)]) (rest := []) X Y hA hcx (c_m_fails l D kc A e0 M hG hwf hpr 0 (by decide)) (cwV 1 X.1.2.2.2.2 gX8_due_X8_fails rfl rfl rfl (by decide +kernel) ⟨Nat.le_of_ble_eq_true rfl, Nat.le_of_ble_eq_true rfl⟩) hg1 rfl rfl rfl hl.1 (Nat.le_of_ble_eq_true rfl) dX8_due_10 ⟨by decide, by decide⟩ (fun r2 M3 H locs p4 Y => ?_)
    obtain ⟨hr9, hG5⟩ := p4
    refine n_top (hr9.trans (bN_f (by decide))) ?_
    refine n_if_eq hx hb 18 (by omega) dX8_due_13 (by decide) (fun _ => ?_) (fun zq => absurd zq (by decide))
    replace hl : lv_has ls 6 [(0, .ref (g.1 11 0)), (1, .int (nI ja))] := by
      rw [← hae]; exact hl
    clear hja hz9 hltx hae
    refine lv_iconst (v := -1) hx hb dX8_due_18 (by decide) ?_
    refine lv_istore_n (lv' := [(2, .int (-1)), (0, .ref (g.1 11 0)), (1, .int (nI ja))]) hx hb dX8_due_19 rfl hl (by decide) rfl (fun ls hl => ?_)
    refine n_iconst hx hb 0 dX8_due_20 (by decide) ?_
    refine lv_istore_n (lv' := [(3, .int (nI 0)), (2, .int (-1)), (0, .ref (g.1 11 0)), (1, .int (nI ja))]) hx hb dX8_due_21 rfl hl (by decide) rfl (fun ls hl => ?_)
    obtain ⟨k, hk0⟩ : ∃ k : Nat, k = 0 := ⟨_, rfl⟩
    replace hl : lv_has ls 6 [(3, .int (nI k)), (2, .int (duS τ ja k)), (0, .ref (g.1 11 0)), (1, .int (nI ja))] := by
      rw [hk0]; exact hl
    replace hl : lv_has ls 6 [(0, .ref (g.1 11 0)), (1, .int (nI ja)), (2, .int (duS τ ja k)), (3, .int (nI k))] := lv_sub hl [2, 3, 1, 0] rfl
    have hk : k ≤ nB τ := by omega
    clear hk0
    obtain ⟨fu, hfu⟩ : ∃ fu : Nat, fu = nB τ - k := ⟨_, rfl⟩
    induction fu generalizing k H locs ls with
    | zero =>
      obtain rfl : k = nB τ := by omega
      refine lv_iload_n hx hb dX8_due_22 rfl (lv_at hl 3 rfl) ?_
      refine lv_aload_n hx hb dX8_due_23 rfl (lv_at hl 0 rfl) ?_
      have hg6 := hG5.f11 (hpr 11 (by decide))
      refine m_get (ref := "CardPortModel") (C := RX8) (T := TX8) (N := 25) (ci := 9) X Y htX8_due_wsX801 hg6 rfl 16 (by decide) kwX8_due_1 rfl (v := .int (nI (nB τ))) rfl dX8_due_24 ?_
      refine n_icmp_ge hx hb 112 (by omega) (by omega) dX8_due_27 (by decide) (fun _ => ?_) (fun zq => absurd zq (by omega))
      refine lv_iload_n hx hb dX8_due_112 rfl (lv_at hl 2 rfl) ?_
      refine m_iret X Y hr hlocks (by decide) (by decide) ?_ dX8_due_113
      exact MC_i (c := 0) e9 hG5
    | succ fu ih =>
      refine lv_iload_n hx hb dX8_due_22 rfl (lv_at hl 3 rfl) ?_
      refine lv_aload_n hx hb dX8_due_23 rfl (lv_at hl 0 rfl) ?_
      have hg7 := hG5.f11 (hpr 11 (by decide))
      refine m_get (ref := "CardPortModel") (C := RX8) (T := TX8) (N := 25) (ci := 9) X Y htX8_due_wsX801 hg7 rfl 16 (by decide) kwX8_due_1 rfl (v := .int (nI (nB τ))) rfl dX8_due_24 ?_
      refine n_icmp_ge hx hb 112 (by omega) (by omega) dX8_due_27 (by decide) (fun zq => absurd zq (by omega)) (fun _ => ?_)
      refine n_iconst hx hb 0 dX8_due_30 (by decide) ?_
      refine lv_istore (lv' := [(4, .int (nI 0)), (0, .ref (g.1 11 0)), (1, .int (nI ja)), (2, .int (duS τ ja k)), (3, .int (nI k))]) hx hb dX8_due_31 hl (by decide) rfl (fun ls hl => ?_)
      refine n_iconst hx hb 0 dX8_due_33 (by decide) ?_
      refine lv_istore (lv' := [(5, .int (nI 0)), (4, .int (nI 0)), (0, .ref (g.1 11 0)), (1, .int (nI ja)), (2, .int (duS τ ja k)), (3, .int (nI k))]) hx hb dX8_due_34 hl (by decide) rfl (fun ls hl => ?_)
      obtain ⟨i, hi0⟩ : ∃ i : Nat, i = 0 := ⟨_, rfl⟩
      replace hl : lv_has ls 6 [(5, .int (nI i)), (4, .int (nI (raS τ k i))), (0, .ref (g.1 11 0)), (1, .int (nI ja)), (2, .int (duS τ ja k)), (3, .int (nI k))] := by
        rw [hi0]; exact hl
      replace hl : lv_has ls 6 [(0, .ref (g.1 11 0)), (1, .int (nI ja)), (2, .int (duS τ ja k)), (3, .int (nI k)), (4, .int (nI (raS τ k i))), (5, .int (nI i))] := lv_sub hl [2, 3, 4, 5, 1, 0] rfl
      have hi : i ≤ nB τ := by omega
      clear hi0
      obtain ⟨fv, hfv⟩ : ∃ fv : Nat, fv = nB τ - i := ⟨_, rfl⟩
      induction fv generalizing i H locs ls with
      | zero =>
        obtain rfl : i = nB τ := by omega
        refine lv_iload hx hb dX8_due_36 (lv_at hl 5 rfl) ?_
        refine lv_aload_n hx hb dX8_due_38 rfl (lv_at hl 0 rfl) ?_
        refine m_get (ref := "CardPortModel") (C := RX8) (T := TX8) (N := 25) (ci := 9) X Y htX8_due_wsX801 hg7 rfl 16 (by decide) kwX8_due_1 rfl (v := .int (nI (nB τ))) rfl dX8_due_39 ?_
        refine n_icmp_ge hx hb 86 (by omega) (by omega) dX8_due_42 (by decide) (fun _ => ?_) (fun zq => absurd zq (by omega))
        refine lv_aload_n hx hb dX8_due_86 rfl (lv_at hl 0 rfl) ?_
        refine lv_iload_n hx hb dX8_due_87 rfl (lv_at hl 3 rfl) ?_
        refine m_rVi (As := [.int (nI k)]) (rest := []) X Y hA hcx (c_m_isDue l D kc A e0 M3 hG5 hwf hpr k (show k < nB τ by omega)) (cwV 1 X.1.2.2.2.2 gX8_due_X8_isDue rfl rfl rfl (by decide +kernel) ⟨Nat.le_of_ble_eq_true rfl, Nat.le_of_ble_eq_true rfl⟩) hg7 rfl rfl rfl hl.1 (Nat.le_of_ble_eq_true rfl) dX8_due_88 ⟨by decide, by decide⟩ (fun H locs Y => ?_)
        by_cases hdu : τ.1 17 k ≤ 1
        · refine n_top (bN_t hdu) ?_
          refine n_if_eq hx hb 104 (by omega) dX8_due_91 (by decide) (fun zq => absurd zq (by decide)) (fun _ => ?_)
          refine lv_iload hx hb dX8_due_94 (lv_at hl 4 rfl) ?_
          refine lv_iload_n hx hb dX8_due_96 rfl (lv_at hl 1 rfl) ?_
          have hrb := ra_b (σ := τ) k (nB τ)
          refine n_icmp_ne hx hb 104 (by omega) (by omega) dX8_due_97 (by decide) (fun hra9 => ?_) (fun hra9 => ?_)
          · refine lv_iload_n hx hb dX8_due_104 rfl (lv_at hl 2 rfl) ?_
            refine lv_istore_n (lv' := [(2, .int (duS τ ja k)), (0, .ref (g.1 11 0)), (1, .int (nI ja)), (3, .int (nI k)), (4, .int (nI (raS τ k (nB τ)))), (5, .int (nI (nB τ)))]) hx hb dX8_due_105 rfl hl (by decide) rfl (fun ls hl => ?_)
            refine lv_iinc (v := (nI (k + 1))) (lv' := [(3, .int (nI (k + 1))), (2, .int (duS τ ja k)), (0, .ref (g.1 11 0)), (1, .int (nI ja)), (4, .int (nI (raS τ k (nB τ)))), (5, .int (nI (nB τ)))]) hx hb dX8_due_106 hl (k := 3) rfl (nI_add _ 1) (by decide) rfl (fun ls hl => ?_)
            refine lv_goto (tgt := 22) hx hb dX8_due_109 (by decide) ?_
            have he9 : duS τ ja (k + 1) = (duS τ ja k) := by rw [duS, if_neg (fun zq => hra9 zq.2)]
            exact ih (k := k + 1) (Y := Y) (hl := by rw [he9]; exact (lv_sub hl [2, 3, 1, 0] rfl)) (hfu := by omega) (hk := by omega)
          · refine lv_iload_n hx hb dX8_due_100 rfl (lv_at hl 3 rfl) ?_
            refine lv_goto (tgt := 105) hx hb dX8_due_101 (by decide) ?_
            refine lv_istore_n (lv' := [(2, .int (nI k)), (0, .ref (g.1 11 0)), (1, .int (nI ja)), (3, .int (nI k)), (4, .int (nI (raS τ k (nB τ)))), (5, .int (nI (nB τ)))]) hx hb dX8_due_105 rfl hl (by decide) rfl (fun ls hl => ?_)
            refine lv_iinc (v := (nI (k + 1))) (lv' := [(3, .int (nI (k + 1))), (2, .int (nI k)), (0, .ref (g.1 11 0)), (1, .int (nI ja)), (4, .int (nI (raS τ k (nB τ)))), (5, .int (nI (nB τ)))]) hx hb dX8_due_106 hl (k := 3) rfl (nI_add _ 1) (by decide) rfl (fun ls hl => ?_)
            refine lv_goto (tgt := 22) hx hb dX8_due_109 (by decide) ?_
            have he9 : duS τ ja (k + 1) = (nI k) := by rw [duS, if_pos ⟨hdu, hra9⟩]
            exact ih (k := k + 1) (Y := Y) (hl := by rw [he9]; exact (lv_sub hl [2, 3, 1, 0] rfl)) (hfu := by omega) (hk := by omega)
        · refine n_top (bN_f hdu) ?_
          refine n_if_eq hx hb 104 (by omega) dX8_due_91 (by decide) (fun _ => ?_) (fun zq => absurd zq (by decide))
          refine lv_iload_n hx hb dX8_due_104 rfl (lv_at hl 2 rfl) ?_
          refine lv_istore_n (lv' := [(2, .int (duS τ ja k)), (0, .ref (g.1 11 0)), (1, .int (nI ja)), (3, .int (nI k)), (4, .int (nI (raS τ k (nB τ)))), (5, .int (nI (nB τ)))]) hx hb dX8_due_105 rfl hl (by decide) rfl (fun ls hl => ?_)
          refine lv_iinc (v := (nI (k + 1))) (lv' := [(3, .int (nI (k + 1))), (2, .int (duS τ ja k)), (0, .ref (g.1 11 0)), (1, .int (nI ja)), (4, .int (nI (raS τ k (nB τ)))), (5, .int (nI (nB τ)))]) hx hb dX8_due_106 hl (k := 3) rfl (nI_add _ 1) (by decide) rfl (fun ls hl => ?_)
          refine lv_goto (tgt := 22) hx hb dX8_due_109 (by decide) ?_
          have he9 : duS τ ja (k + 1) = (duS τ ja k) := by rw [duS, if_neg (fun zq => hdu zq.1)]
          exact ih (k := k + 1) (Y := Y) (hl := by rw [he9]; exact (lv_sub hl [2, 3, 1, 0] rfl)) (hfu := by omega) (hk := by omega)
      | succ fv ihv =>
        refine lv_iload hx hb dX8_due_36 (lv_at hl 5 rfl) ?_
        refine lv_aload_n hx hb dX8_due_38 rfl (lv_at hl 0 rfl) ?_
        refine m_get (ref := "CardPortModel") (C := RX8) (T := TX8) (N := 25) (ci := 9) X Y htX8_due_wsX801 hg7 rfl 16 (by decide) kwX8_due_1 rfl (v := .int (nI (nB τ))) rfl dX8_due_39 ?_
        refine n_icmp_ge hx hb 86 (by omega) (by omega) dX8_due_42 (by decide) (fun zq => absurd zq (by omega)) (fun _ => ?_)
        refine lv_iload hx hb dX8_due_45 (lv_at hl 4 rfl) ?_
        refine lv_iload hx hb dX8_due_47 (lv_at hl 5 rfl) ?_
        refine lv_iload_n hx hb dX8_due_49 rfl (lv_at hl 3 rfl) ?_
        refine n_icmp_eq hx hb 76 (by omega) (by omega) dX8_due_50 (by decide) (fun c50 => ?_) (fun c50 => ?_)
        · refine n_iconst hx hb 0 dX8_due_76 (by decide) ?_
          refine n_iadd hx hb dX8_due_77 ?_
          refine lv_istore (lv' := [(4, .int (nI ((raS τ k i) + 0))), (0, .ref (g.1 11 0)), (1, .int (nI ja)), (2, .int (duS τ ja k)), (3, .int (nI k)), (5, .int (nI i))]) hx hb dX8_due_78 hl (by decide) rfl (fun ls hl => ?_)
          refine lv_iinc (v := (nI (i + 1))) (lv' := [(5, .int (nI (i + 1))), (4, .int (nI ((raS τ k i) + 0))), (0, .ref (g.1 11 0)), (1, .int (nI ja)), (2, .int (duS τ ja k)), (3, .int (nI k))]) hx hb dX8_due_80 hl (k := 5) rfl (nI_add _ 1) (by decide) rfl (fun ls hl => ?_)
          refine lv_goto (tgt := 36) hx hb dX8_due_83 (by decide) ?_
          have he8 : raS τ k (i + 1) = (raS τ k i) + 0 := by rw [raS, if_neg (fun zq => zq.1 c50)]
          exact ihv (i := i + 1) (Y := Y) (hl := by rw [he8]; exact (lv_sub hl [2, 3, 4, 5, 1, 0] rfl)) (hfv := by omega) (hi := by omega)
        · refine lv_aload_n hx hb dX8_due_53 rfl (lv_at hl 0 rfl) ?_
          refine lv_iload hx hb dX8_due_54 (lv_at hl 5 rfl) ?_
          refine m_rVi (As := [.int (nI i)]) (rest := [.int (nI (raS τ k i))]) X Y hA hcx (c_m_isDue l D kc A e0 M3 hG5 hwf hpr i (show i < nB τ by omega)) (cwV 1 X.1.2.2.2.2 gX8_due_X8_isDue rfl rfl rfl (by decide +kernel) ⟨Nat.le_of_ble_eq_true rfl, Nat.le_of_ble_eq_true rfl⟩) hg7 rfl rfl rfl hl.1 (Nat.le_of_ble_eq_true rfl) dX8_due_56 ⟨by decide, by decide⟩ (fun H locs Y => ?_)
          by_cases hdu : τ.1 17 i ≤ 1
          · refine n_top (bN_t hdu) ?_
            refine n_if_eq hx hb 76 (by omega) dX8_due_59 (by decide) (fun zq => absurd zq (by decide)) (fun _ => ?_)
            refine lv_aload_n hx hb dX8_due_62 rfl (lv_at hl 0 rfl) ?_
            refine lv_iload hx hb dX8_due_63 (lv_at hl 5 rfl) ?_
            refine lv_iload_n hx hb dX8_due_65 rfl (lv_at hl 3 rfl) ?_
            refine m_rVi (As := [.int (nI i), .int (nI k)]) (rest := [.int (nI (raS τ k i))]) X Y hA hcx (c_m_isAhead l D kc A e0 M3 hG5 hwf hpr i k (show i < nB τ by omega) (show k < nB τ by omega)) (cwV 2 X.1.2.2.2.2 gX8_due_X8_isAhead rfl rfl rfl (by decide +kernel) ⟨Nat.le_of_ble_eq_true rfl, Nat.le_of_ble_eq_true rfl⟩) hg7 rfl rfl rfl hl.1 (Nat.le_of_ble_eq_true rfl) dX8_due_66 ⟨by decide, by decide⟩ (fun H locs Y => ?_)
            by_cases hah : ahd τ i k
            · refine n_top (bN_t hah) ?_
              refine n_if_eq hx hb 76 (by omega) dX8_due_69 (by decide) (fun zq => absurd zq (by decide)) (fun _ => ?_)
              refine n_iconst hx hb 1 dX8_due_72 (by decide) ?_
              refine lv_goto (tgt := 77) hx hb dX8_due_73 (by decide) ?_
              refine n_iadd hx hb dX8_due_77 ?_
              refine lv_istore (lv' := [(4, .int (nI ((raS τ k i) + 1))), (0, .ref (g.1 11 0)), (1, .int (nI ja)), (2, .int (duS τ ja k)), (3, .int (nI k)), (5, .int (nI i))]) hx hb dX8_due_78 hl (by decide) rfl (fun ls hl => ?_)
              refine lv_iinc (v := (nI (i + 1))) (lv' := [(5, .int (nI (i + 1))), (4, .int (nI ((raS τ k i) + 1))), (0, .ref (g.1 11 0)), (1, .int (nI ja)), (2, .int (duS τ ja k)), (3, .int (nI k))]) hx hb dX8_due_80 hl (k := 5) rfl (nI_add _ 1) (by decide) rfl (fun ls hl => ?_)
              refine lv_goto (tgt := 36) hx hb dX8_due_83 (by decide) ?_
              have he8 : raS τ k (i + 1) = (raS τ k i) + 1 := by rw [raS, if_pos ⟨c50, hdu, hah⟩]
              exact ihv (i := i + 1) (Y := Y) (hl := by rw [he8]; exact (lv_sub hl [2, 3, 4, 5, 1, 0] rfl)) (hfv := by omega) (hi := by omega)
            · refine n_top (bN_f hah) ?_
              refine n_if_eq hx hb 76 (by omega) dX8_due_69 (by decide) (fun _ => ?_) (fun zq => absurd zq (by decide))
              refine n_iconst hx hb 0 dX8_due_76 (by decide) ?_
              refine n_iadd hx hb dX8_due_77 ?_
              refine lv_istore (lv' := [(4, .int (nI ((raS τ k i) + 0))), (0, .ref (g.1 11 0)), (1, .int (nI ja)), (2, .int (duS τ ja k)), (3, .int (nI k)), (5, .int (nI i))]) hx hb dX8_due_78 hl (by decide) rfl (fun ls hl => ?_)
              refine lv_iinc (v := (nI (i + 1))) (lv' := [(5, .int (nI (i + 1))), (4, .int (nI ((raS τ k i) + 0))), (0, .ref (g.1 11 0)), (1, .int (nI ja)), (2, .int (duS τ ja k)), (3, .int (nI k))]) hx hb dX8_due_80 hl (k := 5) rfl (nI_add _ 1) (by decide) rfl (fun ls hl => ?_)
              refine lv_goto (tgt := 36) hx hb dX8_due_83 (by decide) ?_
              have he8 : raS τ k (i + 1) = (raS τ k i) + 0 := by rw [raS, if_neg (fun zq => hah zq.2.2)]
              exact ihv (i := i + 1) (Y := Y) (hl := by rw [he8]; exact (lv_sub hl [2, 3, 4, 5, 1, 0] rfl)) (hfv := by omega) (hi := by omega)
          · refine n_top (bN_f hdu) ?_
            refine n_if_eq hx hb 76 (by omega) dX8_due_59 (by decide) (fun _ => ?_) (fun zq => absurd zq (by decide))
            refine n_iconst hx hb 0 dX8_due_76 (by decide) ?_
            refine n_iadd hx hb dX8_due_77 ?_
            refine lv_istore (lv' := [(4, .int (nI ((raS τ k i) + 0))), (0, .ref (g.1 11 0)), (1, .int (nI ja)), (2, .int (duS τ ja k)), (3, .int (nI k)), (5, .int (nI i))]) hx hb dX8_due_78 hl (by decide) rfl (fun ls hl => ?_)
            refine lv_iinc (v := (nI (i + 1))) (lv' := [(5, .int (nI (i + 1))), (4, .int (nI ((raS τ k i) + 0))), (0, .ref (g.1 11 0)), (1, .int (nI ja)), (2, .int (duS τ ja k)), (3, .int (nI k))]) hx hb dX8_due_80 hl (k := 5) rfl (nI_add _ 1) (by decide) rfl (fun ls hl => ?_)
            refine lv_goto (tgt := 36) hx hb dX8_due_83 (by decide) ?_
            have he8 : raS τ k (i + 1) = (raS τ k i) + 0 := by rw [raS, if_neg (fun zq => hdu zq.2.1)]
            exact ihv (i := i + 1) (Y := Y) (hl := by rw [he8]; exact (lv_sub hl [2, 3, 4, 5, 1, 0] rfl)) (hfv := by omega) (hi := by omega)
  · have e9 : sp_due τ a = (1, 0, τ) := if_neg hz9
    refine lv_aload_n hx hb dX8_due_0 rfl (lv_at hl 0 rfl) ?_
    refine lv_iload_n hx hb dX8_due_1 rfl (lv_at hl 1 rfl) ?_
    refine lv_if_ge (tgt := 9) hx hb dX8_due_2 (by decide) (fun zq => absurd zq (by rw [Int32.le_iff_toInt_le]; exact hz9)) (fun _ => ?_)
    refine n_iconst hx hb 1 dX8_due_5 (by decide) ?_
    refine lv_goto (tgt := 10) hx hb dX8_due_6 (by decide) ?_
    have hg8 := hG.f11 (hpr 11 (by decide))
    refine m_Vi (As := [.int (nI 1)]) (rest := []) X Y hA hcx (c_m_fails l D kc A e0 M hG hwf hpr 1 (by decide)) (cwV 1 X.1.2.2.2.2 gX8_due_X8_fails rfl rfl rfl (by decide +kernel) ⟨Nat.le_of_ble_eq_true rfl, Nat.le_of_ble_eq_true rfl⟩) hg8 rfl rfl rfl hl.1 (Nat.le_of_ble_eq_true rfl) dX8_due_10 ⟨by decide, by decide⟩ (fun r9 M10 H locs p11 Y => ?_)
    obtain ⟨hr9, hG12⟩ := p11
    refine n_top (hr9.trans (bN_t (by decide))) ?_
    refine n_if_eq hx hb 18 (by omega) dX8_due_13 (by decide) (fun zq => absurd zq (by decide)) (fun _ => ?_)
    refine n_iconst hx hb 0 dX8_due_16 (by decide) ?_
    refine m_iret X Y hr hlocks (by decide) (by decide) ?_ dX8_due_17
    exact MC_i (c := 1) e9 hG12
