section LAWR
variable {p : Program} {l : Launch} {e : Env} {R : Room} {s : State} {m : MethodId} {args : Array Value} {below : List Frame} {meth : Method} {c : Code} {H : Heap} {locs : List Loc} {cells slots : Nat} {Q : State → Prop} {cc : ByteArray} {nL : Nat} {own : String} {Ts : List Cond} {D : va_G} {kc : Nat → ClassId} {A : Nat → Prop} {M : Mp} {pc : Nat} {ls : Array Slot} {rest st0 : List Value} {e0 : Nat × Nat}
variable {y : MethodName} {bytes : ByteArray} {maxL mc ms n index : Nat} {ret : Option FieldType} {ws : List Cond} {rm : Room} {As : List Value} {hh : List (Nat × Nat × Nat × Nat)}
theorem m_SWi (X : mX p s m args c cc nL own Ts D kc) (Y : mY D A M s H locs) (hA : ∀ q, s.heap.size ≤ q → A q) (hcx : cx A e0 s) {post : Int32 → Mp → Prop} (hM : Met l y ws rm (mPre D kc A e0 M (As)) (va_Qi post (mB D A) A) mc ms A) (cw : vx_CSW R s args own index y bytes maxL ret hh ws rm mc ms n) (hst : st0 = As.reverse ++ rest) (hn : As.length = n) (hls : ls.size = nL) (hW : (rest.map fun v => v.category).sum ≤ 8) (hdg : decode cc pc = .ok (.invokestatic index, 3)) (hf : cells + mc ≤ R.cells ∧ slots + ms ≤ R.slots) (kk : ∀ (r : Int32) (M1 : Mp) (H1 : Heap) (locs1 : List Loc), post r M1 → mY D A M1 s H1 locs1 → W p l e R s m args below meth c H1 locs1 (cells + mc) (slots + ms) Q (F0 m (pc + 3) ls (.int r :: rest))) :
    W p l e R s m args below meth c H locs cells slots Q (F0 m pc ls st0) :=
  va_calli (vx_runSW (As := As) (rest := rest) X.1 hM cw ⟨mG.blind, fun U hU hW9 => mG.of X Y hA hcx hU hW9⟩ rfl hn hls hst (lv_room hW) hdg hf) Y.2 (fun _ _ h => h) (fun _ h => h) (fun r u t H1 locs1 ht hvm hp hB hz hk hS => kk r u H1 locs1 hp ⟨by rw [← ht]; exact hB, hS⟩)
/-- the script's int at place k of call n -/
def sc (xs : Nat → Int32) (n k : Nat) : Int32 := xs (nI (4 * n + k)).toNatClampNeg
theorem m_sc (X : mX p s m args c cc nL own Ts D kc) (Y : mY D A M s H locs) {b L : Nat} {xs : Nat → Int32} (hX : va_X b L xs s s.heap) (hbl : b < s.heap.size) (hbA : ¬ A b) (hL : L ≤ 2048) {i k : Nat} (h : 4 * i + k < L) (hdg : decode cc pc = .ok (.iaload, 1))
    (kk : W p l e R s m args below meth c H locs cells slots Q (F0 m (pc + 1) ls (.int (sc xs i k) :: rest))) : W p l e R s m args below meth c H locs cells slots Q (F0 m pc ls (.int (nI (4 * i + k)) :: .ref b :: rest)) :=
  va_sld X.1.1 X.1.2.1 hX hbl hbA Y.2 (vp_in_nI h (by omega)) hdg kk
end LAWR
abbrev lawL (b n : Nat) (g : Gh) : List (Nat × Value) := [(4, .int (nI (4 * n))), (3, .ref (g.1 13 0)), (2, .ref (g.1 11 0)), (1, .ref (g.1 7 0)), (0, .ref b)]
abbrev prL : Nat → Prop := fun t => t ≤ 13
set_option maxHeartbeats 4000000 in
set_option maxRecDepth 100000 in
theorem law_shop {p : Program} {l : Launch} (hlt : l.stackTraces = false) {e : Env} {s : State} {m : MethodId} {below : List Frame} {meth : Method} {c : Code} {H : Heap} {locs : List Loc} {CE SL : Nat} {Q : State → Prop} {D : va_G} {kc : Nat → ClassId} {A : Nat → Prop} {M : Mp} {ls : Array Slot} {e0 : Nat × Nat} {b L : Nat} {xs : Nat → Int32} {σ : Sg} {th : Int32} {o : Int64} {g : Gh} {n : Nat} (X : mX p s m #[Value.ref b] c cL_law 8 RL wsL_law D kc) (hA : ∀ q, s.heap.size ≤ q → A q) (hcx : cx A e0 s) (hX : va_X b L xs s s.heap) (hbl : b < s.heap.size) (hbA : ¬ A b) (hL : L ≤ 2048) (hnL : 4 * n + 4 ≤ L) (hn5 : n + 1 ≤ 600) (hCE : CE + 12 ≤ room_1.cells) (hSL : SL + 320 ≤ room_1.slots) (hG : G prL kc e0 σ σ th o g M) (hwf : WF n σ) (Y : mY D A M s H locs) (hl : lv_has ls 8 (lawL b n g)) (kk : ∀ (σ1 : Sg) (th1 : Int32) (o1 : Int64) (g1 : Gh) (M1 : Mp) (H1 : Heap) (locs1 : List Loc) (ls1 : Array Slot), G prL kc e0 σ1 σ1 th1 o1 g1 M1 → WF (n + 1) σ1 → mY D A M1 s H1 locs1 → lv_has ls1 8 (lawL b n g1) → W p l e room_1 s m #[Value.ref b] below meth c H1 locs1 (CE + 12) (SL + 320) Q (F0 m 1378 ls1 [])) : W p l e room_1 s m #[Value.ref b] below meth c H locs CE SL Q (F0 m 128 ls []) := by
  have hx := X.1.1
  have hb := X.1.2.1
  replace hl : lv_has ls 8 [(4, .int (nI (4 * n))), (3, .ref (g.1 13 0)), (2, .ref (g.1 11 0)), (1, .ref (g.1 7 0)), (0, .ref b)] := hl
  refine lv_aload_n hx hb dL_law_128 rfl (lv_at hl 3 rfl) ?_
  refine lv_aload_n hx hb dL_law_129 rfl (lv_at hl 4 rfl) ?_
  refine lv_iload hx hb dL_law_130 (lv_at hl 0 rfl) ?_
  refine n_iconst hx hb 1 dL_law_132 (by decide) ?_
  refine n_iadd hx hb dL_law_133 ?_
  refine m_sc X Y hX hbl hbA hL (i := n) (k := 1) (by omega) dL_law_134 ?_
  refine lv_aload_n hx hb dL_law_135 rfl (lv_at hl 4 rfl) ?_
  refine lv_iload hx hb dL_law_136 (lv_at hl 0 rfl) ?_
  refine n_iconst hx hb 2 dL_law_138 (by decide) ?_
  refine n_iadd hx hb dL_law_139 ?_
  refine m_sc X Y hX hbl hbA hL (i := n) (k := 2) (by omega) dL_law_140 ?_
  refine lv_aload_n hx hb dL_law_141 rfl (lv_at hl 1 rfl) ?_
  refine m_SWi (As := [.ref (g.1 7 0), .int (sc xs n 1), .int (sc xs n 2), .ref (g.1 13 0)]) (rest := []) X Y hA hcx (c_L_shop l hlt D kc A e0 M hG hwf.1 (fun t ht => ht) (sc xs n 1) (sc xs n 2)) (vx_cwSW 4 X.1.2.2.2.2 gL_law_L_shop rfl rfl rfl (by decide +kernel) ⟨Nat.le_of_ble_eq_true rfl, Nat.le_of_ble_eq_true rfl⟩) rfl rfl hl.1 (Nat.le_of_ble_eq_true rfl) dL_law_142 ⟨hCE, hSL⟩ (fun r M1 H locs hp Y => ?_)
  obtain ⟨hr1, g1, o1, hk1, hG1, ho1⟩ := hp
  subst hr1
  have e7 : g1.1 7 0 = g.1 7 0 := hk1 7 0 (by decide) (by decide) (by decide) (by decide)
  have e11 : g1.1 11 0 = g.1 11 0 := hk1 11 0 (by decide) (by decide) (by decide) (by decide)
  have e13 : g1.1 13 0 = g.1 13 0 := hk1 13 0 (by decide) (by decide) (by decide) (by decide)
  rw [← e7, ← e11, ← e13] at hl
  refine lv_istore (lv' := [(5, .int (nI ((sp_shop σ (sc xs n 1) (sc xs n 2)).1))), (4, .int (nI (4 * n))), (3, .ref (g1.1 13 0)), (2, .ref (g1.1 11 0)), (1, .ref (g1.1 7 0)), (0, .ref b)]) hx hb dL_law_145 hl (by decide) rfl (fun ls hl => ?_)
  refine lv_aload_n hx hb dL_law_147 rfl (lv_at hl 3 rfl) ?_
  refine lv_aload_n hx hb dL_law_148 rfl (lv_at hl 5 rfl) ?_
  refine lv_iload hx hb dL_law_149 (lv_at hl 1 rfl) ?_
  refine n_iconst hx hb 1 dL_law_151 (by decide) ?_
  refine n_iadd hx hb dL_law_152 ?_
  refine m_sc X Y hX hbl hbA hL (i := n) (k := 1) (by omega) dL_law_153 ?_
  refine lv_aload_n hx hb dL_law_154 rfl (lv_at hl 5 rfl) ?_
  refine lv_iload hx hb dL_law_155 (lv_at hl 1 rfl) ?_
  refine n_iconst hx hb 2 dL_law_157 (by decide) ?_
  refine n_iadd hx hb dL_law_158 ?_
  refine m_sc X Y hX hbl hbA hL (i := n) (k := 2) (by omega) dL_law_159 ?_
  refine m_Vi (As := [.int (sc xs n 1), .int (sc xs n 2)]) (rest := []) X Y hA hcx (c_X8_shop l D kc A e0 M1 hG1 hwf.1 (fun t ht => ht) (sc xs n 1) (sc xs n 2)) (cwV 2 X.1.2.2.2.2 gL_law_X8_shop rfl rfl rfl (by decide +kernel) ⟨Nat.le_of_ble_eq_true rfl, Nat.le_of_ble_eq_true rfl⟩) (hG1.f11 (show 11 ≤ 13 by decide)) rfl rfl rfl hl.1 (Nat.le_of_ble_eq_true rfl) dL_law_160 ⟨hCE, hSL⟩ (fun r2 M2 H locs hp Y => ?_)
  obtain ⟨hr2, hG2⟩ := hp
  refine lv_istore (lv' := [(6, .int r2), (5, .int (nI ((sp_shop σ (sc xs n 1) (sc xs n 2)).1))), (4, .int (nI (4 * n))), (3, .ref (g1.1 13 0)), (2, .ref (g1.1 11 0)), (1, .ref (g1.1 7 0)), (0, .ref b)]) hx hb dL_law_163 hl (by decide) rfl (fun ls hl => ?_)
  refine lv_aload_n hx hb dL_law_165 rfl (lv_at hl 4 rfl) ?_
  refine m_Vi (As := []) (rest := []) X Y hA hcx (c_X8_thrown l D kc A e0 M2 hG2 (fun t ht => ht)) (cwV 0 X.1.2.2.2.2 gL_law_X8_thrown rfl rfl rfl (by decide +kernel) ⟨Nat.le_of_ble_eq_true rfl, Nat.le_of_ble_eq_true rfl⟩) (hG2.f11 (show 11 ≤ 13 by decide)) rfl rfl rfl hl.1 (Nat.le_of_ble_eq_true rfl) dL_law_166 ⟨hCE, hSL⟩ (fun r3 M3 H locs hp Y => ?_)
  obtain ⟨hr3, eM⟩ := hp
  subst hr3
  rw [eM] at Y
  have hG3 := hG2
  refine lv_iload hx hb dL_law_169 (lv_at hl 1 rfl) ?_
  refine lv_icmp_eq (tgt := 176) hx hb dL_law_171 (by decide) (fun _ => ?_) (fun zq => absurd rfl zq)
  have hcl := sp_shop_x σ (sc xs n 1) (sc xs n 2)
  have hcl2 : (sp_shop σ (sc xs n 1) (sc xs n 2)).1 < 2147483648 := by have z := hcl.1; omega
  refine lv_iload hx hb dL_law_176 (lv_at hl 1 rfl) ?_
  refine n_if_ne hx hb 193 hcl2 dL_law_178 (by decide) (fun hc0 => ?_) (fun hc0 => ?_)
  · refine lv_goto (tgt := 1378) hx hb dL_law_193 (by decide) ?_
    exact kk ((sp_shop σ (sc xs n 1) (sc xs n 2)).2.2) _ o1 g1 M2 H locs ls hG3 ((WF_sp_shop hwf (sc xs n 1) (sc xs n 2)).mono (by omega) hn5) Y (lv_sub hl [2, 3, 4, 5, 6] rfl)
  · refine lv_aload_n hx hb dL_law_181 rfl (lv_at hl 3 rfl) ?_
    refine n_iconst hx hb 0 dL_law_182 (by decide) ?_
    refine m_lald X Y (hG3.f13 (show 13 ≤ 13 by decide)) (vp_in_nI (show 0 < 1 by decide) (by decide)) (v := o1) (by rw [nI_cl (show 0 < 2147483648 by decide)]; rfl) dL_law_183 ?_
    refine lv_iload hx hb dL_law_184 (lv_at hl 0 rfl) ?_
    refine lv_i2l hx hb dL_law_186 rfl ?_
    refine W.lcmp hx hb dL_law_187 ?_
    refine lv_if_eq (tgt := 193) hx hb dL_law_188 (by decide) (fun _ => ?_) (fun zq => absurd (by rw [lg_cmp_eq]; exact (ho1 hc0).trans (congrArg Int32.toInt64 hr2.symm)) zq)
    refine lv_goto (tgt := 1378) hx hb dL_law_193 (by decide) ?_
    exact kk ((sp_shop σ (sc xs n 1) (sc xs n 2)).2.2) _ o1 g1 M2 H locs ls hG3 ((WF_sp_shop hwf (sc xs n 1) (sc xs n 2)).mono (by omega) hn5) Y (lv_sub hl [2, 3, 4, 5, 6] rfl)
set_option maxHeartbeats 4000000 in
set_option maxRecDepth 100000 in
theorem law_kind {p : Program} {l : Launch} (hlt : l.stackTraces = false) {e : Env} {s : State} {m : MethodId} {below : List Frame} {meth : Method} {c : Code} {H : Heap} {locs : List Loc} {CE SL : Nat} {Q : State → Prop} {D : va_G} {kc : Nat → ClassId} {A : Nat → Prop} {M : Mp} {ls : Array Slot} {e0 : Nat × Nat} {b L : Nat} {xs : Nat → Int32} {σ : Sg} {th : Int32} {o : Int64} {g : Gh} {n : Nat} (X : mX p s m #[Value.ref b] c cL_law 8 RL wsL_law D kc) (hA : ∀ q, s.heap.size ≤ q → A q) (hcx : cx A e0 s) (hX : va_X b L xs s s.heap) (hbl : b < s.heap.size) (hbA : ¬ A b) (hL : L ≤ 2048) (hnL : 4 * n + 4 ≤ L) (hn5 : n + 1 ≤ 600) (hCE : CE + 12 ≤ room_1.cells) (hSL : SL + 320 ≤ room_1.slots) (hG : G prL kc e0 σ σ th o g M) (hwf : WF n σ) (Y : mY D A M s H locs) (hl : lv_has ls 8 (lawL b n g)) (kk : ∀ (σ1 : Sg) (th1 : Int32) (o1 : Int64) (g1 : Gh) (M1 : Mp) (H1 : Heap) (locs1 : List Loc) (ls1 : Array Slot), G prL kc e0 σ1 σ1 th1 o1 g1 M1 → WF (n + 1) σ1 → mY D A M1 s H1 locs1 → lv_has ls1 8 (lawL b n g1) → W p l e room_1 s m #[Value.ref b] below meth c H1 locs1 (CE + 12) (SL + 320) Q (F0 m 1378 ls1 [])) : W p l e room_1 s m #[Value.ref b] below meth c H locs CE SL Q (F0 m 196 ls []) := by
  have hx := X.1.1
  have hb := X.1.2.1
  replace hl : lv_has ls 8 [(4, .int (nI (4 * n))), (3, .ref (g.1 13 0)), (2, .ref (g.1 11 0)), (1, .ref (g.1 7 0)), (0, .ref b)] := hl
  refine lv_aload_n hx hb dL_law_196 rfl (lv_at hl 3 rfl) ?_
  refine lv_aload_n hx hb dL_law_197 rfl (lv_at hl 4 rfl) ?_
  refine lv_iload hx hb dL_law_198 (lv_at hl 0 rfl) ?_
  refine n_iconst hx hb 1 dL_law_200 (by decide) ?_
  refine n_iadd hx hb dL_law_201 ?_
  refine m_sc X Y hX hbl hbA hL (i := n) (k := 1) (by omega) dL_law_202 ?_
  refine lv_aload_n hx hb dL_law_203 rfl (lv_at hl 4 rfl) ?_
  refine lv_iload hx hb dL_law_204 (lv_at hl 0 rfl) ?_
  refine n_iconst hx hb 2 dL_law_206 (by decide) ?_
  refine n_iadd hx hb dL_law_207 ?_
  refine m_sc X Y hX hbl hbA hL (i := n) (k := 2) (by omega) dL_law_208 ?_
  refine lv_aload_n hx hb dL_law_209 rfl (lv_at hl 4 rfl) ?_
  refine lv_iload hx hb dL_law_210 (lv_at hl 0 rfl) ?_
  refine n_iconst hx hb 3 dL_law_212 (by decide) ?_
  refine n_iadd hx hb dL_law_213 ?_
  refine m_sc X Y hX hbl hbA hL (i := n) (k := 3) (by omega) dL_law_214 ?_
  refine lv_aload_n hx hb dL_law_215 rfl (lv_at hl 1 rfl) ?_
  refine m_SWi (As := [.ref (g.1 7 0), .int (sc xs n 1), .int (sc xs n 2), .int (sc xs n 3), .ref (g.1 13 0)]) (rest := []) X Y hA hcx (c_L_kind l hlt D kc A e0 M hG hwf.1 (fun t ht => ht) (sc xs n 1) (sc xs n 2) (sc xs n 3)) (vx_cwSW 5 X.1.2.2.2.2 gL_law_L_kind rfl rfl rfl (by decide +kernel) ⟨Nat.le_of_ble_eq_true rfl, Nat.le_of_ble_eq_true rfl⟩) rfl rfl hl.1 (Nat.le_of_ble_eq_true rfl) dL_law_216 ⟨hCE, hSL⟩ (fun r M1 H locs hp Y => ?_)
  obtain ⟨hr1, g1, o1, hk1, hG1, ho1⟩ := hp
  subst hr1
  have e7 : g1.1 7 0 = g.1 7 0 := hk1 7 0 (by decide) (by decide) (by decide) (by decide)
  have e11 : g1.1 11 0 = g.1 11 0 := hk1 11 0 (by decide) (by decide) (by decide) (by decide)
  have e13 : g1.1 13 0 = g.1 13 0 := hk1 13 0 (by decide) (by decide) (by decide) (by decide)
  rw [← e7, ← e11, ← e13] at hl
  refine lv_istore (lv' := [(5, .int (nI ((sp_kind σ (sc xs n 1) (sc xs n 2) (sc xs n 3)).1))), (4, .int (nI (4 * n))), (3, .ref (g1.1 13 0)), (2, .ref (g1.1 11 0)), (1, .ref (g1.1 7 0)), (0, .ref b)]) hx hb dL_law_219 hl (by decide) rfl (fun ls hl => ?_)
  refine lv_aload_n hx hb dL_law_221 rfl (lv_at hl 3 rfl) ?_
  refine lv_aload_n hx hb dL_law_222 rfl (lv_at hl 5 rfl) ?_
  refine lv_iload hx hb dL_law_223 (lv_at hl 1 rfl) ?_
  refine n_iconst hx hb 1 dL_law_225 (by decide) ?_
  refine n_iadd hx hb dL_law_226 ?_
  refine m_sc X Y hX hbl hbA hL (i := n) (k := 1) (by omega) dL_law_227 ?_
  refine lv_aload_n hx hb dL_law_228 rfl (lv_at hl 5 rfl) ?_
  refine lv_iload hx hb dL_law_229 (lv_at hl 1 rfl) ?_
  refine n_iconst hx hb 2 dL_law_231 (by decide) ?_
  refine n_iadd hx hb dL_law_232 ?_
  refine m_sc X Y hX hbl hbA hL (i := n) (k := 2) (by omega) dL_law_233 ?_
  refine lv_aload_n hx hb dL_law_234 rfl (lv_at hl 5 rfl) ?_
  refine lv_iload hx hb dL_law_235 (lv_at hl 1 rfl) ?_
  refine n_iconst hx hb 3 dL_law_237 (by decide) ?_
  refine n_iadd hx hb dL_law_238 ?_
  refine m_sc X Y hX hbl hbA hL (i := n) (k := 3) (by omega) dL_law_239 ?_
  refine m_Vi (As := [.int (sc xs n 1), .int (sc xs n 2), .int (sc xs n 3)]) (rest := []) X Y hA hcx (c_X8_kind l D kc A e0 M1 hG1 hwf.1 (fun t ht => ht) (sc xs n 1) (sc xs n 2) (sc xs n 3)) (cwV 3 X.1.2.2.2.2 gL_law_X8_kind rfl rfl rfl (by decide +kernel) ⟨Nat.le_of_ble_eq_true rfl, Nat.le_of_ble_eq_true rfl⟩) (hG1.f11 (show 11 ≤ 13 by decide)) rfl rfl rfl hl.1 (Nat.le_of_ble_eq_true rfl) dL_law_240 ⟨hCE, hSL⟩ (fun r2 M2 H locs hp Y => ?_)
  obtain ⟨hr2, hG2⟩ := hp
  refine lv_istore (lv' := [(6, .int r2), (5, .int (nI ((sp_kind σ (sc xs n 1) (sc xs n 2) (sc xs n 3)).1))), (4, .int (nI (4 * n))), (3, .ref (g1.1 13 0)), (2, .ref (g1.1 11 0)), (1, .ref (g1.1 7 0)), (0, .ref b)]) hx hb dL_law_243 hl (by decide) rfl (fun ls hl => ?_)
  refine lv_aload_n hx hb dL_law_245 rfl (lv_at hl 4 rfl) ?_
  refine m_Vi (As := []) (rest := []) X Y hA hcx (c_X8_thrown l D kc A e0 M2 hG2 (fun t ht => ht)) (cwV 0 X.1.2.2.2.2 gL_law_X8_thrown rfl rfl rfl (by decide +kernel) ⟨Nat.le_of_ble_eq_true rfl, Nat.le_of_ble_eq_true rfl⟩) (hG2.f11 (show 11 ≤ 13 by decide)) rfl rfl rfl hl.1 (Nat.le_of_ble_eq_true rfl) dL_law_246 ⟨hCE, hSL⟩ (fun r3 M3 H locs hp Y => ?_)
  obtain ⟨hr3, eM⟩ := hp
  subst hr3
  rw [eM] at Y
  have hG3 := hG2
  refine lv_iload hx hb dL_law_249 (lv_at hl 1 rfl) ?_
  refine lv_icmp_eq (tgt := 256) hx hb dL_law_251 (by decide) (fun _ => ?_) (fun zq => absurd rfl zq)
  have hcl := sp_kind_x σ (sc xs n 1) (sc xs n 2) (sc xs n 3)
  have hcl2 : (sp_kind σ (sc xs n 1) (sc xs n 2) (sc xs n 3)).1 < 2147483648 := by have z := hcl.1; omega
  refine lv_iload hx hb dL_law_256 (lv_at hl 1 rfl) ?_
  refine n_if_ne hx hb 273 hcl2 dL_law_258 (by decide) (fun hc0 => ?_) (fun hc0 => ?_)
  · refine lv_goto (tgt := 1378) hx hb dL_law_273 (by decide) ?_
    exact kk ((sp_kind σ (sc xs n 1) (sc xs n 2) (sc xs n 3)).2.2) _ o1 g1 M2 H locs ls hG3 ((WF_sp_kind hwf (sc xs n 1) (sc xs n 2) (sc xs n 3)).mono (by omega) hn5) Y (lv_sub hl [2, 3, 4, 5, 6] rfl)
  · refine lv_aload_n hx hb dL_law_261 rfl (lv_at hl 3 rfl) ?_
    refine n_iconst hx hb 0 dL_law_262 (by decide) ?_
    refine m_lald X Y (hG3.f13 (show 13 ≤ 13 by decide)) (vp_in_nI (show 0 < 1 by decide) (by decide)) (v := o1) (by rw [nI_cl (show 0 < 2147483648 by decide)]; rfl) dL_law_263 ?_
    refine lv_iload hx hb dL_law_264 (lv_at hl 0 rfl) ?_
    refine lv_i2l hx hb dL_law_266 rfl ?_
    refine W.lcmp hx hb dL_law_267 ?_
    refine lv_if_eq (tgt := 273) hx hb dL_law_268 (by decide) (fun _ => ?_) (fun zq => absurd (by rw [lg_cmp_eq]; exact (ho1 hc0).trans (congrArg Int32.toInt64 hr2.symm)) zq)
    refine lv_goto (tgt := 1378) hx hb dL_law_273 (by decide) ?_
    exact kk ((sp_kind σ (sc xs n 1) (sc xs n 2) (sc xs n 3)).2.2) _ o1 g1 M2 H locs ls hG3 ((WF_sp_kind hwf (sc xs n 1) (sc xs n 2) (sc xs n 3)).mono (by omega) hn5) Y (lv_sub hl [2, 3, 4, 5, 6] rfl)
set_option maxHeartbeats 4000000 in
set_option maxRecDepth 100000 in
theorem law_authorise {p : Program} {l : Launch} (hlt : l.stackTraces = false) {e : Env} {s : State} {m : MethodId} {below : List Frame} {meth : Method} {c : Code} {H : Heap} {locs : List Loc} {CE SL : Nat} {Q : State → Prop} {D : va_G} {kc : Nat → ClassId} {A : Nat → Prop} {M : Mp} {ls : Array Slot} {e0 : Nat × Nat} {b L : Nat} {xs : Nat → Int32} {σ : Sg} {th : Int32} {o : Int64} {g : Gh} {n : Nat} (X : mX p s m #[Value.ref b] c cL_law 8 RL wsL_law D kc) (hA : ∀ q, s.heap.size ≤ q → A q) (hcx : cx A e0 s) (hX : va_X b L xs s s.heap) (hbl : b < s.heap.size) (hbA : ¬ A b) (hL : L ≤ 2048) (hnL : 4 * n + 4 ≤ L) (hn5 : n + 1 ≤ 600) (hCE : CE + 12 ≤ room_1.cells) (hSL : SL + 320 ≤ room_1.slots) (hG : G prL kc e0 σ σ th o g M) (hwf : WF n σ) (Y : mY D A M s H locs) (hl : lv_has ls 8 (lawL b n g)) (kk : ∀ (σ1 : Sg) (th1 : Int32) (o1 : Int64) (g1 : Gh) (M1 : Mp) (H1 : Heap) (locs1 : List Loc) (ls1 : Array Slot), G prL kc e0 σ1 σ1 th1 o1 g1 M1 → WF (n + 1) σ1 → mY D A M1 s H1 locs1 → lv_has ls1 8 (lawL b n g1) → W p l e room_1 s m #[Value.ref b] below meth c H1 locs1 (CE + 12) (SL + 320) Q (F0 m 1378 ls1 [])) : W p l e room_1 s m #[Value.ref b] below meth c H locs CE SL Q (F0 m 276 ls []) := by
  have hx := X.1.1
  have hb := X.1.2.1
  replace hl : lv_has ls 8 [(4, .int (nI (4 * n))), (3, .ref (g.1 13 0)), (2, .ref (g.1 11 0)), (1, .ref (g.1 7 0)), (0, .ref b)] := hl
  refine lv_aload_n hx hb dL_law_276 rfl (lv_at hl 3 rfl) ?_
  refine lv_aload_n hx hb dL_law_277 rfl (lv_at hl 4 rfl) ?_
  refine lv_iload hx hb dL_law_278 (lv_at hl 0 rfl) ?_
  refine n_iconst hx hb 1 dL_law_280 (by decide) ?_
  refine n_iadd hx hb dL_law_281 ?_
  refine m_sc X Y hX hbl hbA hL (i := n) (k := 1) (by omega) dL_law_282 ?_
  refine lv_aload_n hx hb dL_law_283 rfl (lv_at hl 4 rfl) ?_
  refine lv_iload hx hb dL_law_284 (lv_at hl 0 rfl) ?_
  refine n_iconst hx hb 2 dL_law_286 (by decide) ?_
  refine n_iadd hx hb dL_law_287 ?_
  refine m_sc X Y hX hbl hbA hL (i := n) (k := 2) (by omega) dL_law_288 ?_
  refine lv_aload_n hx hb dL_law_289 rfl (lv_at hl 4 rfl) ?_
  refine lv_iload hx hb dL_law_290 (lv_at hl 0 rfl) ?_
  refine n_iconst hx hb 3 dL_law_292 (by decide) ?_
  refine n_iadd hx hb dL_law_293 ?_
  refine m_sc X Y hX hbl hbA hL (i := n) (k := 3) (by omega) dL_law_294 ?_
  refine lv_aload_n hx hb dL_law_295 rfl (lv_at hl 1 rfl) ?_
  refine m_SWi (As := [.ref (g.1 7 0), .int (sc xs n 1), .int (sc xs n 2), .int (sc xs n 3), .ref (g.1 13 0)]) (rest := []) X Y hA hcx (c_L_authorise l hlt D kc A e0 M hG hwf.1 (fun t ht => ht) (sc xs n 1) (sc xs n 2) (sc xs n 3)) (vx_cwSW 5 X.1.2.2.2.2 gL_law_L_authorise rfl rfl rfl (by decide +kernel) ⟨Nat.le_of_ble_eq_true rfl, Nat.le_of_ble_eq_true rfl⟩) rfl rfl hl.1 (Nat.le_of_ble_eq_true rfl) dL_law_296 ⟨hCE, hSL⟩ (fun r M1 H locs hp Y => ?_)
  obtain ⟨hr1, g1, o1, hk1, hG1, ho1⟩ := hp
  subst hr1
  have e7 : g1.1 7 0 = g.1 7 0 := hk1 7 0 (by decide) (by decide) (by decide) (by decide)
  have e11 : g1.1 11 0 = g.1 11 0 := hk1 11 0 (by decide) (by decide) (by decide) (by decide)
  have e13 : g1.1 13 0 = g.1 13 0 := hk1 13 0 (by decide) (by decide) (by decide) (by decide)
  rw [← e7, ← e11, ← e13] at hl
  refine lv_istore (lv' := [(5, .int (nI ((sp_authorise σ (sc xs n 1) (sc xs n 2) (sc xs n 3)).1))), (4, .int (nI (4 * n))), (3, .ref (g1.1 13 0)), (2, .ref (g1.1 11 0)), (1, .ref (g1.1 7 0)), (0, .ref b)]) hx hb dL_law_299 hl (by decide) rfl (fun ls hl => ?_)
  refine lv_aload_n hx hb dL_law_301 rfl (lv_at hl 3 rfl) ?_
  refine lv_aload_n hx hb dL_law_302 rfl (lv_at hl 5 rfl) ?_
  refine lv_iload hx hb dL_law_303 (lv_at hl 1 rfl) ?_
  refine n_iconst hx hb 1 dL_law_305 (by decide) ?_
  refine n_iadd hx hb dL_law_306 ?_
  refine m_sc X Y hX hbl hbA hL (i := n) (k := 1) (by omega) dL_law_307 ?_
  refine lv_aload_n hx hb dL_law_308 rfl (lv_at hl 5 rfl) ?_
  refine lv_iload hx hb dL_law_309 (lv_at hl 1 rfl) ?_
  refine n_iconst hx hb 2 dL_law_311 (by decide) ?_
  refine n_iadd hx hb dL_law_312 ?_
  refine m_sc X Y hX hbl hbA hL (i := n) (k := 2) (by omega) dL_law_313 ?_
  refine lv_aload_n hx hb dL_law_314 rfl (lv_at hl 5 rfl) ?_
  refine lv_iload hx hb dL_law_315 (lv_at hl 1 rfl) ?_
  refine n_iconst hx hb 3 dL_law_317 (by decide) ?_
  refine n_iadd hx hb dL_law_318 ?_
  refine m_sc X Y hX hbl hbA hL (i := n) (k := 3) (by omega) dL_law_319 ?_
  refine m_Vi (As := [.int (sc xs n 1), .int (sc xs n 2), .int (sc xs n 3)]) (rest := []) X Y hA hcx (c_X8_authorise l D kc A e0 M1 hG1 hwf.1 (fun t ht => ht) (sc xs n 1) (sc xs n 2) (sc xs n 3)) (cwV 3 X.1.2.2.2.2 gL_law_X8_authorise rfl rfl rfl (by decide +kernel) ⟨Nat.le_of_ble_eq_true rfl, Nat.le_of_ble_eq_true rfl⟩) (hG1.f11 (show 11 ≤ 13 by decide)) rfl rfl rfl hl.1 (Nat.le_of_ble_eq_true rfl) dL_law_320 ⟨hCE, hSL⟩ (fun r2 M2 H locs hp Y => ?_)
  obtain ⟨hr2, hG2⟩ := hp
  refine lv_istore (lv' := [(6, .int r2), (5, .int (nI ((sp_authorise σ (sc xs n 1) (sc xs n 2) (sc xs n 3)).1))), (4, .int (nI (4 * n))), (3, .ref (g1.1 13 0)), (2, .ref (g1.1 11 0)), (1, .ref (g1.1 7 0)), (0, .ref b)]) hx hb dL_law_323 hl (by decide) rfl (fun ls hl => ?_)
  refine lv_aload_n hx hb dL_law_325 rfl (lv_at hl 4 rfl) ?_
  refine m_Vi (As := []) (rest := []) X Y hA hcx (c_X8_thrown l D kc A e0 M2 hG2 (fun t ht => ht)) (cwV 0 X.1.2.2.2.2 gL_law_X8_thrown rfl rfl rfl (by decide +kernel) ⟨Nat.le_of_ble_eq_true rfl, Nat.le_of_ble_eq_true rfl⟩) (hG2.f11 (show 11 ≤ 13 by decide)) rfl rfl rfl hl.1 (Nat.le_of_ble_eq_true rfl) dL_law_326 ⟨hCE, hSL⟩ (fun r3 M3 H locs hp Y => ?_)
  obtain ⟨hr3, eM⟩ := hp
  subst hr3
  rw [eM] at Y
  have hG3 := hG2
  refine lv_iload hx hb dL_law_329 (lv_at hl 1 rfl) ?_
  refine lv_icmp_eq (tgt := 336) hx hb dL_law_331 (by decide) (fun _ => ?_) (fun zq => absurd rfl zq)
  have hcl := sp_authorise_x σ (sc xs n 1) (sc xs n 2) (sc xs n 3)
  have hcl2 : (sp_authorise σ (sc xs n 1) (sc xs n 2) (sc xs n 3)).1 < 2147483648 := by have z := hcl.1; omega
  refine lv_iload hx hb dL_law_336 (lv_at hl 1 rfl) ?_
  refine n_if_ne hx hb 353 hcl2 dL_law_338 (by decide) (fun hc0 => ?_) (fun hc0 => ?_)
  · refine lv_goto (tgt := 1378) hx hb dL_law_353 (by decide) ?_
    exact kk ((sp_authorise σ (sc xs n 1) (sc xs n 2) (sc xs n 3)).2.2) _ o1 g1 M2 H locs ls hG3 ((WF_sp_authorise hwf (sc xs n 1) (sc xs n 2) (sc xs n 3)).mono (by omega) hn5) Y (lv_sub hl [2, 3, 4, 5, 6] rfl)
  · refine lv_aload_n hx hb dL_law_341 rfl (lv_at hl 3 rfl) ?_
    refine n_iconst hx hb 0 dL_law_342 (by decide) ?_
    refine m_lald X Y (hG3.f13 (show 13 ≤ 13 by decide)) (vp_in_nI (show 0 < 1 by decide) (by decide)) (v := o1) (by rw [nI_cl (show 0 < 2147483648 by decide)]; rfl) dL_law_343 ?_
    refine lv_iload hx hb dL_law_344 (lv_at hl 0 rfl) ?_
    refine lv_i2l hx hb dL_law_346 rfl ?_
    refine W.lcmp hx hb dL_law_347 ?_
    refine lv_if_eq (tgt := 353) hx hb dL_law_348 (by decide) (fun _ => ?_) (fun zq => absurd (by rw [lg_cmp_eq]; exact (ho1 hc0).trans (congrArg Int32.toInt64 hr2.symm)) zq)
    refine lv_goto (tgt := 1378) hx hb dL_law_353 (by decide) ?_
    exact kk ((sp_authorise σ (sc xs n 1) (sc xs n 2) (sc xs n 3)).2.2) _ o1 g1 M2 H locs ls hG3 ((WF_sp_authorise hwf (sc xs n 1) (sc xs n 2) (sc xs n 3)).mono (by omega) hn5) Y (lv_sub hl [2, 3, 4, 5, 6] rfl)
set_option maxHeartbeats 4000000 in
set_option maxRecDepth 100000 in
theorem law_capture {p : Program} {l : Launch} (hlt : l.stackTraces = false) {e : Env} {s : State} {m : MethodId} {below : List Frame} {meth : Method} {c : Code} {H : Heap} {locs : List Loc} {CE SL : Nat} {Q : State → Prop} {D : va_G} {kc : Nat → ClassId} {A : Nat → Prop} {M : Mp} {ls : Array Slot} {e0 : Nat × Nat} {b L : Nat} {xs : Nat → Int32} {σ : Sg} {th : Int32} {o : Int64} {g : Gh} {n : Nat} (X : mX p s m #[Value.ref b] c cL_law 8 RL wsL_law D kc) (hA : ∀ q, s.heap.size ≤ q → A q) (hcx : cx A e0 s) (hX : va_X b L xs s s.heap) (hbl : b < s.heap.size) (hbA : ¬ A b) (hL : L ≤ 2048) (hnL : 4 * n + 4 ≤ L) (hn5 : n + 1 ≤ 600) (hCE : CE + 12 ≤ room_1.cells) (hSL : SL + 320 ≤ room_1.slots) (hG : G prL kc e0 σ σ th o g M) (hwf : WF n σ) (Y : mY D A M s H locs) (hl : lv_has ls 8 (lawL b n g)) (kk : ∀ (σ1 : Sg) (th1 : Int32) (o1 : Int64) (g1 : Gh) (M1 : Mp) (H1 : Heap) (locs1 : List Loc) (ls1 : Array Slot), G prL kc e0 σ1 σ1 th1 o1 g1 M1 → WF (n + 1) σ1 → mY D A M1 s H1 locs1 → lv_has ls1 8 (lawL b n g1) → W p l e room_1 s m #[Value.ref b] below meth c H1 locs1 (CE + 12) (SL + 320) Q (F0 m 1378 ls1 [])) : W p l e room_1 s m #[Value.ref b] below meth c H locs CE SL Q (F0 m 356 ls []) := by
  have hx := X.1.1
  have hb := X.1.2.1
  replace hl : lv_has ls 8 [(4, .int (nI (4 * n))), (3, .ref (g.1 13 0)), (2, .ref (g.1 11 0)), (1, .ref (g.1 7 0)), (0, .ref b)] := hl
  refine lv_aload_n hx hb dL_law_356 rfl (lv_at hl 3 rfl) ?_
  refine lv_aload_n hx hb dL_law_357 rfl (lv_at hl 4 rfl) ?_
  refine lv_iload hx hb dL_law_358 (lv_at hl 0 rfl) ?_
  refine n_iconst hx hb 1 dL_law_360 (by decide) ?_
  refine n_iadd hx hb dL_law_361 ?_
  refine m_sc X Y hX hbl hbA hL (i := n) (k := 1) (by omega) dL_law_362 ?_
  refine lv_aload_n hx hb dL_law_363 rfl (lv_at hl 4 rfl) ?_
  refine lv_iload hx hb dL_law_364 (lv_at hl 0 rfl) ?_
  refine n_iconst hx hb 2 dL_law_366 (by decide) ?_
  refine n_iadd hx hb dL_law_367 ?_
  refine m_sc X Y hX hbl hbA hL (i := n) (k := 2) (by omega) dL_law_368 ?_
  refine lv_aload_n hx hb dL_law_369 rfl (lv_at hl 1 rfl) ?_
  refine m_SWi (As := [.ref (g.1 7 0), .int (sc xs n 1), .int (sc xs n 2), .ref (g.1 13 0)]) (rest := []) X Y hA hcx (c_L_capture l hlt D kc A e0 M hG hwf.1 (fun t ht => ht) (sc xs n 1) (sc xs n 2)) (vx_cwSW 4 X.1.2.2.2.2 gL_law_L_capture rfl rfl rfl (by decide +kernel) ⟨Nat.le_of_ble_eq_true rfl, Nat.le_of_ble_eq_true rfl⟩) rfl rfl hl.1 (Nat.le_of_ble_eq_true rfl) dL_law_370 ⟨hCE, hSL⟩ (fun r M1 H locs hp Y => ?_)
  obtain ⟨hr1, g1, o1, hk1, hG1, ho1⟩ := hp
  subst hr1
  have e7 : g1.1 7 0 = g.1 7 0 := hk1 7 0 (by decide) (by decide) (by decide) (by decide)
  have e11 : g1.1 11 0 = g.1 11 0 := hk1 11 0 (by decide) (by decide) (by decide) (by decide)
  have e13 : g1.1 13 0 = g.1 13 0 := hk1 13 0 (by decide) (by decide) (by decide) (by decide)
  rw [← e7, ← e11, ← e13] at hl
  refine lv_istore (lv' := [(5, .int (nI ((sp_capture σ (sc xs n 1) (sc xs n 2)).1))), (4, .int (nI (4 * n))), (3, .ref (g1.1 13 0)), (2, .ref (g1.1 11 0)), (1, .ref (g1.1 7 0)), (0, .ref b)]) hx hb dL_law_373 hl (by decide) rfl (fun ls hl => ?_)
  refine lv_aload_n hx hb dL_law_375 rfl (lv_at hl 3 rfl) ?_
  refine lv_aload_n hx hb dL_law_376 rfl (lv_at hl 5 rfl) ?_
  refine lv_iload hx hb dL_law_377 (lv_at hl 1 rfl) ?_
  refine n_iconst hx hb 1 dL_law_379 (by decide) ?_
  refine n_iadd hx hb dL_law_380 ?_
  refine m_sc X Y hX hbl hbA hL (i := n) (k := 1) (by omega) dL_law_381 ?_
  refine lv_aload_n hx hb dL_law_382 rfl (lv_at hl 5 rfl) ?_
  refine lv_iload hx hb dL_law_383 (lv_at hl 1 rfl) ?_
  refine n_iconst hx hb 2 dL_law_385 (by decide) ?_
  refine n_iadd hx hb dL_law_386 ?_
  refine m_sc X Y hX hbl hbA hL (i := n) (k := 2) (by omega) dL_law_387 ?_
  refine m_Vi (As := [.int (sc xs n 1), .int (sc xs n 2)]) (rest := []) X Y hA hcx (c_X8_capture l D kc A e0 M1 hG1 hwf.1 (fun t ht => ht) (sc xs n 1) (sc xs n 2)) (cwV 2 X.1.2.2.2.2 gL_law_X8_capture rfl rfl rfl (by decide +kernel) ⟨Nat.le_of_ble_eq_true rfl, Nat.le_of_ble_eq_true rfl⟩) (hG1.f11 (show 11 ≤ 13 by decide)) rfl rfl rfl hl.1 (Nat.le_of_ble_eq_true rfl) dL_law_388 ⟨hCE, hSL⟩ (fun r2 M2 H locs hp Y => ?_)
  obtain ⟨hr2, hG2⟩ := hp
  refine lv_istore (lv' := [(6, .int r2), (5, .int (nI ((sp_capture σ (sc xs n 1) (sc xs n 2)).1))), (4, .int (nI (4 * n))), (3, .ref (g1.1 13 0)), (2, .ref (g1.1 11 0)), (1, .ref (g1.1 7 0)), (0, .ref b)]) hx hb dL_law_391 hl (by decide) rfl (fun ls hl => ?_)
  refine lv_aload_n hx hb dL_law_393 rfl (lv_at hl 4 rfl) ?_
  refine m_Vi (As := []) (rest := []) X Y hA hcx (c_X8_thrown l D kc A e0 M2 hG2 (fun t ht => ht)) (cwV 0 X.1.2.2.2.2 gL_law_X8_thrown rfl rfl rfl (by decide +kernel) ⟨Nat.le_of_ble_eq_true rfl, Nat.le_of_ble_eq_true rfl⟩) (hG2.f11 (show 11 ≤ 13 by decide)) rfl rfl rfl hl.1 (Nat.le_of_ble_eq_true rfl) dL_law_394 ⟨hCE, hSL⟩ (fun r3 M3 H locs hp Y => ?_)
  obtain ⟨hr3, eM⟩ := hp
  subst hr3
  rw [eM] at Y
  have hG3 := hG2
  refine lv_iload hx hb dL_law_397 (lv_at hl 1 rfl) ?_
  refine lv_icmp_eq (tgt := 404) hx hb dL_law_399 (by decide) (fun _ => ?_) (fun zq => absurd rfl zq)
  have hcl := sp_capture_x σ (sc xs n 1) (sc xs n 2)
  have hcl2 : (sp_capture σ (sc xs n 1) (sc xs n 2)).1 < 2147483648 := by have z := hcl.1; omega
  refine lv_iload hx hb dL_law_404 (lv_at hl 1 rfl) ?_
  refine n_if_ne hx hb 421 hcl2 dL_law_406 (by decide) (fun hc0 => ?_) (fun hc0 => ?_)
  · refine lv_goto (tgt := 1378) hx hb dL_law_421 (by decide) ?_
    exact kk ((sp_capture σ (sc xs n 1) (sc xs n 2)).2.2) _ o1 g1 M2 H locs ls hG3 ((WF_sp_capture hwf (sc xs n 1) (sc xs n 2)).mono (by omega) hn5) Y (lv_sub hl [2, 3, 4, 5, 6] rfl)
  · refine lv_aload_n hx hb dL_law_409 rfl (lv_at hl 3 rfl) ?_
    refine n_iconst hx hb 0 dL_law_410 (by decide) ?_
    refine m_lald X Y (hG3.f13 (show 13 ≤ 13 by decide)) (vp_in_nI (show 0 < 1 by decide) (by decide)) (v := o1) (by rw [nI_cl (show 0 < 2147483648 by decide)]; rfl) dL_law_411 ?_
    refine lv_iload hx hb dL_law_412 (lv_at hl 0 rfl) ?_
    refine lv_i2l hx hb dL_law_414 rfl ?_
    refine W.lcmp hx hb dL_law_415 ?_
    refine lv_if_eq (tgt := 421) hx hb dL_law_416 (by decide) (fun _ => ?_) (fun zq => absurd (by rw [lg_cmp_eq]; exact (ho1 hc0).trans (congrArg Int32.toInt64 hr2.symm)) zq)
    refine lv_goto (tgt := 1378) hx hb dL_law_421 (by decide) ?_
    exact kk ((sp_capture σ (sc xs n 1) (sc xs n 2)).2.2) _ o1 g1 M2 H locs ls hG3 ((WF_sp_capture hwf (sc xs n 1) (sc xs n 2)).mono (by omega) hn5) Y (lv_sub hl [2, 3, 4, 5, 6] rfl)
set_option maxHeartbeats 4000000 in
set_option maxRecDepth 100000 in
theorem law_cancel {p : Program} {l : Launch} (hlt : l.stackTraces = false) {e : Env} {s : State} {m : MethodId} {below : List Frame} {meth : Method} {c : Code} {H : Heap} {locs : List Loc} {CE SL : Nat} {Q : State → Prop} {D : va_G} {kc : Nat → ClassId} {A : Nat → Prop} {M : Mp} {ls : Array Slot} {e0 : Nat × Nat} {b L : Nat} {xs : Nat → Int32} {σ : Sg} {th : Int32} {o : Int64} {g : Gh} {n : Nat} (X : mX p s m #[Value.ref b] c cL_law 8 RL wsL_law D kc) (hA : ∀ q, s.heap.size ≤ q → A q) (hcx : cx A e0 s) (hX : va_X b L xs s s.heap) (hbl : b < s.heap.size) (hbA : ¬ A b) (hL : L ≤ 2048) (hnL : 4 * n + 4 ≤ L) (hn5 : n + 1 ≤ 600) (hCE : CE + 12 ≤ room_1.cells) (hSL : SL + 320 ≤ room_1.slots) (hG : G prL kc e0 σ σ th o g M) (hwf : WF n σ) (Y : mY D A M s H locs) (hl : lv_has ls 8 (lawL b n g)) (kk : ∀ (σ1 : Sg) (th1 : Int32) (o1 : Int64) (g1 : Gh) (M1 : Mp) (H1 : Heap) (locs1 : List Loc) (ls1 : Array Slot), G prL kc e0 σ1 σ1 th1 o1 g1 M1 → WF (n + 1) σ1 → mY D A M1 s H1 locs1 → lv_has ls1 8 (lawL b n g1) → W p l e room_1 s m #[Value.ref b] below meth c H1 locs1 (CE + 12) (SL + 320) Q (F0 m 1378 ls1 [])) : W p l e room_1 s m #[Value.ref b] below meth c H locs CE SL Q (F0 m 424 ls []) := by
  have hx := X.1.1
  have hb := X.1.2.1
  replace hl : lv_has ls 8 [(4, .int (nI (4 * n))), (3, .ref (g.1 13 0)), (2, .ref (g.1 11 0)), (1, .ref (g.1 7 0)), (0, .ref b)] := hl
  refine lv_aload_n hx hb dL_law_424 rfl (lv_at hl 3 rfl) ?_
  refine lv_aload_n hx hb dL_law_425 rfl (lv_at hl 4 rfl) ?_
  refine lv_iload hx hb dL_law_426 (lv_at hl 0 rfl) ?_
  refine n_iconst hx hb 1 dL_law_428 (by decide) ?_
  refine n_iadd hx hb dL_law_429 ?_
  refine m_sc X Y hX hbl hbA hL (i := n) (k := 1) (by omega) dL_law_430 ?_
  refine lv_aload_n hx hb dL_law_431 rfl (lv_at hl 1 rfl) ?_
  refine m_SWi (As := [.ref (g.1 7 0), .int (sc xs n 1), .ref (g.1 13 0)]) (rest := []) X Y hA hcx (c_L_cancel l hlt D kc A e0 M hG hwf.1 (fun t ht => ht) (sc xs n 1)) (vx_cwSW 3 X.1.2.2.2.2 gL_law_L_cancel rfl rfl rfl (by decide +kernel) ⟨Nat.le_of_ble_eq_true rfl, Nat.le_of_ble_eq_true rfl⟩) rfl rfl hl.1 (Nat.le_of_ble_eq_true rfl) dL_law_432 ⟨hCE, hSL⟩ (fun r M1 H locs hp Y => ?_)
  obtain ⟨hr1, g1, o1, hk1, hG1, ho1⟩ := hp
  subst hr1
  have e7 : g1.1 7 0 = g.1 7 0 := hk1 7 0 (by decide) (by decide) (by decide) (by decide)
  have e11 : g1.1 11 0 = g.1 11 0 := hk1 11 0 (by decide) (by decide) (by decide) (by decide)
  have e13 : g1.1 13 0 = g.1 13 0 := hk1 13 0 (by decide) (by decide) (by decide) (by decide)
  rw [← e7, ← e11, ← e13] at hl
  refine lv_istore (lv' := [(5, .int (nI ((sp_cancel σ (sc xs n 1)).1))), (4, .int (nI (4 * n))), (3, .ref (g1.1 13 0)), (2, .ref (g1.1 11 0)), (1, .ref (g1.1 7 0)), (0, .ref b)]) hx hb dL_law_435 hl (by decide) rfl (fun ls hl => ?_)
  refine lv_aload_n hx hb dL_law_437 rfl (lv_at hl 3 rfl) ?_
  refine lv_aload_n hx hb dL_law_438 rfl (lv_at hl 5 rfl) ?_
  refine lv_iload hx hb dL_law_439 (lv_at hl 1 rfl) ?_
  refine n_iconst hx hb 1 dL_law_441 (by decide) ?_
  refine n_iadd hx hb dL_law_442 ?_
  refine m_sc X Y hX hbl hbA hL (i := n) (k := 1) (by omega) dL_law_443 ?_
  refine m_Vi (As := [.int (sc xs n 1)]) (rest := []) X Y hA hcx (c_X8_cancel l D kc A e0 M1 hG1 hwf.1 (fun t ht => ht) (sc xs n 1)) (cwV 1 X.1.2.2.2.2 gL_law_X8_cancel rfl rfl rfl (by decide +kernel) ⟨Nat.le_of_ble_eq_true rfl, Nat.le_of_ble_eq_true rfl⟩) (hG1.f11 (show 11 ≤ 13 by decide)) rfl rfl rfl hl.1 (Nat.le_of_ble_eq_true rfl) dL_law_444 ⟨hCE, hSL⟩ (fun r2 M2 H locs hp Y => ?_)
  obtain ⟨hr2, hG2⟩ := hp
  refine lv_istore (lv' := [(6, .int r2), (5, .int (nI ((sp_cancel σ (sc xs n 1)).1))), (4, .int (nI (4 * n))), (3, .ref (g1.1 13 0)), (2, .ref (g1.1 11 0)), (1, .ref (g1.1 7 0)), (0, .ref b)]) hx hb dL_law_447 hl (by decide) rfl (fun ls hl => ?_)
  refine lv_aload_n hx hb dL_law_449 rfl (lv_at hl 4 rfl) ?_
  refine m_Vi (As := []) (rest := []) X Y hA hcx (c_X8_thrown l D kc A e0 M2 hG2 (fun t ht => ht)) (cwV 0 X.1.2.2.2.2 gL_law_X8_thrown rfl rfl rfl (by decide +kernel) ⟨Nat.le_of_ble_eq_true rfl, Nat.le_of_ble_eq_true rfl⟩) (hG2.f11 (show 11 ≤ 13 by decide)) rfl rfl rfl hl.1 (Nat.le_of_ble_eq_true rfl) dL_law_450 ⟨hCE, hSL⟩ (fun r3 M3 H locs hp Y => ?_)
  obtain ⟨hr3, eM⟩ := hp
  subst hr3
  rw [eM] at Y
  have hG3 := hG2
  refine lv_iload hx hb dL_law_453 (lv_at hl 1 rfl) ?_
  refine lv_icmp_eq (tgt := 460) hx hb dL_law_455 (by decide) (fun _ => ?_) (fun zq => absurd rfl zq)
  have hcl := sp_cancel_x σ (sc xs n 1)
  have hcl2 : (sp_cancel σ (sc xs n 1)).1 < 2147483648 := by have z := hcl.1; omega
  refine lv_iload hx hb dL_law_460 (lv_at hl 1 rfl) ?_
  refine n_if_ne hx hb 477 hcl2 dL_law_462 (by decide) (fun hc0 => ?_) (fun hc0 => ?_)
  · refine lv_goto (tgt := 1378) hx hb dL_law_477 (by decide) ?_
    exact kk ((sp_cancel σ (sc xs n 1)).2.2) _ o1 g1 M2 H locs ls hG3 ((WF_sp_cancel hwf (sc xs n 1)).mono (by omega) hn5) Y (lv_sub hl [2, 3, 4, 5, 6] rfl)
  · refine lv_aload_n hx hb dL_law_465 rfl (lv_at hl 3 rfl) ?_
    refine n_iconst hx hb 0 dL_law_466 (by decide) ?_
    refine m_lald X Y (hG3.f13 (show 13 ≤ 13 by decide)) (vp_in_nI (show 0 < 1 by decide) (by decide)) (v := o1) (by rw [nI_cl (show 0 < 2147483648 by decide)]; rfl) dL_law_467 ?_
    refine lv_iload hx hb dL_law_468 (lv_at hl 0 rfl) ?_
    refine lv_i2l hx hb dL_law_470 rfl ?_
    refine W.lcmp hx hb dL_law_471 ?_
    refine lv_if_eq (tgt := 477) hx hb dL_law_472 (by decide) (fun _ => ?_) (fun zq => absurd (by rw [lg_cmp_eq]; exact (ho1 hc0).trans (congrArg Int32.toInt64 hr2.symm)) zq)
    refine lv_goto (tgt := 1378) hx hb dL_law_477 (by decide) ?_
    exact kk ((sp_cancel σ (sc xs n 1)).2.2) _ o1 g1 M2 H locs ls hG3 ((WF_sp_cancel hwf (sc xs n 1)).mono (by omega) hn5) Y (lv_sub hl [2, 3, 4, 5, 6] rfl)
set_option maxHeartbeats 4000000 in
set_option maxRecDepth 100000 in
theorem law_refund {p : Program} {l : Launch} (hlt : l.stackTraces = false) {e : Env} {s : State} {m : MethodId} {below : List Frame} {meth : Method} {c : Code} {H : Heap} {locs : List Loc} {CE SL : Nat} {Q : State → Prop} {D : va_G} {kc : Nat → ClassId} {A : Nat → Prop} {M : Mp} {ls : Array Slot} {e0 : Nat × Nat} {b L : Nat} {xs : Nat → Int32} {σ : Sg} {th : Int32} {o : Int64} {g : Gh} {n : Nat} (X : mX p s m #[Value.ref b] c cL_law 8 RL wsL_law D kc) (hA : ∀ q, s.heap.size ≤ q → A q) (hcx : cx A e0 s) (hX : va_X b L xs s s.heap) (hbl : b < s.heap.size) (hbA : ¬ A b) (hL : L ≤ 2048) (hnL : 4 * n + 4 ≤ L) (hn5 : n + 1 ≤ 600) (hCE : CE + 12 ≤ room_1.cells) (hSL : SL + 320 ≤ room_1.slots) (hG : G prL kc e0 σ σ th o g M) (hwf : WF n σ) (Y : mY D A M s H locs) (hl : lv_has ls 8 (lawL b n g)) (kk : ∀ (σ1 : Sg) (th1 : Int32) (o1 : Int64) (g1 : Gh) (M1 : Mp) (H1 : Heap) (locs1 : List Loc) (ls1 : Array Slot), G prL kc e0 σ1 σ1 th1 o1 g1 M1 → WF (n + 1) σ1 → mY D A M1 s H1 locs1 → lv_has ls1 8 (lawL b n g1) → W p l e room_1 s m #[Value.ref b] below meth c H1 locs1 (CE + 12) (SL + 320) Q (F0 m 1378 ls1 [])) : W p l e room_1 s m #[Value.ref b] below meth c H locs CE SL Q (F0 m 480 ls []) := by
  have hx := X.1.1
  have hb := X.1.2.1
  replace hl : lv_has ls 8 [(4, .int (nI (4 * n))), (3, .ref (g.1 13 0)), (2, .ref (g.1 11 0)), (1, .ref (g.1 7 0)), (0, .ref b)] := hl
  refine lv_aload_n hx hb dL_law_480 rfl (lv_at hl 3 rfl) ?_
  refine lv_aload_n hx hb dL_law_481 rfl (lv_at hl 4 rfl) ?_
  refine lv_iload hx hb dL_law_482 (lv_at hl 0 rfl) ?_
  refine n_iconst hx hb 1 dL_law_484 (by decide) ?_
  refine n_iadd hx hb dL_law_485 ?_
  refine m_sc X Y hX hbl hbA hL (i := n) (k := 1) (by omega) dL_law_486 ?_
  refine lv_aload_n hx hb dL_law_487 rfl (lv_at hl 4 rfl) ?_
  refine lv_iload hx hb dL_law_488 (lv_at hl 0 rfl) ?_
  refine n_iconst hx hb 2 dL_law_490 (by decide) ?_
  refine n_iadd hx hb dL_law_491 ?_
  refine m_sc X Y hX hbl hbA hL (i := n) (k := 2) (by omega) dL_law_492 ?_
  refine lv_aload_n hx hb dL_law_493 rfl (lv_at hl 1 rfl) ?_
  refine m_SWi (As := [.ref (g.1 7 0), .int (sc xs n 1), .int (sc xs n 2), .ref (g.1 13 0)]) (rest := []) X Y hA hcx (c_L_refund l hlt D kc A e0 M hG hwf.1 (fun t ht => ht) (sc xs n 1) (sc xs n 2)) (vx_cwSW 4 X.1.2.2.2.2 gL_law_L_refund rfl rfl rfl (by decide +kernel) ⟨Nat.le_of_ble_eq_true rfl, Nat.le_of_ble_eq_true rfl⟩) rfl rfl hl.1 (Nat.le_of_ble_eq_true rfl) dL_law_494 ⟨hCE, hSL⟩ (fun r M1 H locs hp Y => ?_)
  obtain ⟨hr1, g1, o1, hk1, hG1, ho1⟩ := hp
  subst hr1
  have e7 : g1.1 7 0 = g.1 7 0 := hk1 7 0 (by decide) (by decide) (by decide) (by decide)
  have e11 : g1.1 11 0 = g.1 11 0 := hk1 11 0 (by decide) (by decide) (by decide) (by decide)
  have e13 : g1.1 13 0 = g.1 13 0 := hk1 13 0 (by decide) (by decide) (by decide) (by decide)
  rw [← e7, ← e11, ← e13] at hl
  refine lv_istore (lv' := [(5, .int (nI ((sp_refund σ (sc xs n 1) (sc xs n 2)).1))), (4, .int (nI (4 * n))), (3, .ref (g1.1 13 0)), (2, .ref (g1.1 11 0)), (1, .ref (g1.1 7 0)), (0, .ref b)]) hx hb dL_law_497 hl (by decide) rfl (fun ls hl => ?_)
  refine lv_aload_n hx hb dL_law_499 rfl (lv_at hl 3 rfl) ?_
  refine lv_aload_n hx hb dL_law_500 rfl (lv_at hl 5 rfl) ?_
  refine lv_iload hx hb dL_law_501 (lv_at hl 1 rfl) ?_
  refine n_iconst hx hb 1 dL_law_503 (by decide) ?_
  refine n_iadd hx hb dL_law_504 ?_
  refine m_sc X Y hX hbl hbA hL (i := n) (k := 1) (by omega) dL_law_505 ?_
  refine lv_aload_n hx hb dL_law_506 rfl (lv_at hl 5 rfl) ?_
  refine lv_iload hx hb dL_law_507 (lv_at hl 1 rfl) ?_
  refine n_iconst hx hb 2 dL_law_509 (by decide) ?_
  refine n_iadd hx hb dL_law_510 ?_
  refine m_sc X Y hX hbl hbA hL (i := n) (k := 2) (by omega) dL_law_511 ?_
  refine m_Vi (As := [.int (sc xs n 1), .int (sc xs n 2)]) (rest := []) X Y hA hcx (c_X8_refund l D kc A e0 M1 hG1 hwf.1 (fun t ht => ht) (sc xs n 1) (sc xs n 2)) (cwV 2 X.1.2.2.2.2 gL_law_X8_refund rfl rfl rfl (by decide +kernel) ⟨Nat.le_of_ble_eq_true rfl, Nat.le_of_ble_eq_true rfl⟩) (hG1.f11 (show 11 ≤ 13 by decide)) rfl rfl rfl hl.1 (Nat.le_of_ble_eq_true rfl) dL_law_512 ⟨hCE, hSL⟩ (fun r2 M2 H locs hp Y => ?_)
  obtain ⟨hr2, hG2⟩ := hp
  refine lv_istore (lv' := [(6, .int r2), (5, .int (nI ((sp_refund σ (sc xs n 1) (sc xs n 2)).1))), (4, .int (nI (4 * n))), (3, .ref (g1.1 13 0)), (2, .ref (g1.1 11 0)), (1, .ref (g1.1 7 0)), (0, .ref b)]) hx hb dL_law_515 hl (by decide) rfl (fun ls hl => ?_)
  refine lv_aload_n hx hb dL_law_517 rfl (lv_at hl 4 rfl) ?_
  refine m_Vi (As := []) (rest := []) X Y hA hcx (c_X8_thrown l D kc A e0 M2 hG2 (fun t ht => ht)) (cwV 0 X.1.2.2.2.2 gL_law_X8_thrown rfl rfl rfl (by decide +kernel) ⟨Nat.le_of_ble_eq_true rfl, Nat.le_of_ble_eq_true rfl⟩) (hG2.f11 (show 11 ≤ 13 by decide)) rfl rfl rfl hl.1 (Nat.le_of_ble_eq_true rfl) dL_law_518 ⟨hCE, hSL⟩ (fun r3 M3 H locs hp Y => ?_)
  obtain ⟨hr3, eM⟩ := hp
  subst hr3
  rw [eM] at Y
  have hG3 := hG2
  refine lv_iload hx hb dL_law_521 (lv_at hl 1 rfl) ?_
  refine lv_icmp_eq (tgt := 528) hx hb dL_law_523 (by decide) (fun _ => ?_) (fun zq => absurd rfl zq)
  have hcl := sp_refund_x σ (sc xs n 1) (sc xs n 2)
  have hcl2 : (sp_refund σ (sc xs n 1) (sc xs n 2)).1 < 2147483648 := by have z := hcl.1; omega
  refine lv_iload hx hb dL_law_528 (lv_at hl 1 rfl) ?_
  refine n_if_ne hx hb 545 hcl2 dL_law_530 (by decide) (fun hc0 => ?_) (fun hc0 => ?_)
  · refine lv_goto (tgt := 1378) hx hb dL_law_545 (by decide) ?_
    exact kk ((sp_refund σ (sc xs n 1) (sc xs n 2)).2.2) _ o1 g1 M2 H locs ls hG3 ((WF_sp_refund hwf (sc xs n 1) (sc xs n 2)).mono (by omega) hn5) Y (lv_sub hl [2, 3, 4, 5, 6] rfl)
  · refine lv_aload_n hx hb dL_law_533 rfl (lv_at hl 3 rfl) ?_
    refine n_iconst hx hb 0 dL_law_534 (by decide) ?_
    refine m_lald X Y (hG3.f13 (show 13 ≤ 13 by decide)) (vp_in_nI (show 0 < 1 by decide) (by decide)) (v := o1) (by rw [nI_cl (show 0 < 2147483648 by decide)]; rfl) dL_law_535 ?_
    refine lv_iload hx hb dL_law_536 (lv_at hl 0 rfl) ?_
    refine lv_i2l hx hb dL_law_538 rfl ?_
    refine W.lcmp hx hb dL_law_539 ?_
    refine lv_if_eq (tgt := 545) hx hb dL_law_540 (by decide) (fun _ => ?_) (fun zq => absurd (by rw [lg_cmp_eq]; exact (ho1 hc0).trans (congrArg Int32.toInt64 hr2.symm)) zq)
    refine lv_goto (tgt := 1378) hx hb dL_law_545 (by decide) ?_
    exact kk ((sp_refund σ (sc xs n 1) (sc xs n 2)).2.2) _ o1 g1 M2 H locs ls hG3 ((WF_sp_refund hwf (sc xs n 1) (sc xs n 2)).mono (by omega) hn5) Y (lv_sub hl [2, 3, 4, 5, 6] rfl)
set_option maxHeartbeats 4000000 in
set_option maxRecDepth 100000 in
theorem law_dispute {p : Program} {l : Launch} (hlt : l.stackTraces = false) {e : Env} {s : State} {m : MethodId} {below : List Frame} {meth : Method} {c : Code} {H : Heap} {locs : List Loc} {CE SL : Nat} {Q : State → Prop} {D : va_G} {kc : Nat → ClassId} {A : Nat → Prop} {M : Mp} {ls : Array Slot} {e0 : Nat × Nat} {b L : Nat} {xs : Nat → Int32} {σ : Sg} {th : Int32} {o : Int64} {g : Gh} {n : Nat} (X : mX p s m #[Value.ref b] c cL_law 8 RL wsL_law D kc) (hA : ∀ q, s.heap.size ≤ q → A q) (hcx : cx A e0 s) (hX : va_X b L xs s s.heap) (hbl : b < s.heap.size) (hbA : ¬ A b) (hL : L ≤ 2048) (hnL : 4 * n + 4 ≤ L) (hn5 : n + 1 ≤ 600) (hCE : CE + 12 ≤ room_1.cells) (hSL : SL + 320 ≤ room_1.slots) (hG : G prL kc e0 σ σ th o g M) (hwf : WF n σ) (Y : mY D A M s H locs) (hl : lv_has ls 8 (lawL b n g)) (kk : ∀ (σ1 : Sg) (th1 : Int32) (o1 : Int64) (g1 : Gh) (M1 : Mp) (H1 : Heap) (locs1 : List Loc) (ls1 : Array Slot), G prL kc e0 σ1 σ1 th1 o1 g1 M1 → WF (n + 1) σ1 → mY D A M1 s H1 locs1 → lv_has ls1 8 (lawL b n g1) → W p l e room_1 s m #[Value.ref b] below meth c H1 locs1 (CE + 12) (SL + 320) Q (F0 m 1378 ls1 [])) : W p l e room_1 s m #[Value.ref b] below meth c H locs CE SL Q (F0 m 548 ls []) := by
  have hx := X.1.1
  have hb := X.1.2.1
  replace hl : lv_has ls 8 [(4, .int (nI (4 * n))), (3, .ref (g.1 13 0)), (2, .ref (g.1 11 0)), (1, .ref (g.1 7 0)), (0, .ref b)] := hl
  refine lv_aload_n hx hb dL_law_548 rfl (lv_at hl 3 rfl) ?_
  refine lv_aload_n hx hb dL_law_549 rfl (lv_at hl 4 rfl) ?_
  refine lv_iload hx hb dL_law_550 (lv_at hl 0 rfl) ?_
  refine n_iconst hx hb 1 dL_law_552 (by decide) ?_
  refine n_iadd hx hb dL_law_553 ?_
  refine m_sc X Y hX hbl hbA hL (i := n) (k := 1) (by omega) dL_law_554 ?_
  refine lv_aload_n hx hb dL_law_555 rfl (lv_at hl 4 rfl) ?_
  refine lv_iload hx hb dL_law_556 (lv_at hl 0 rfl) ?_
  refine n_iconst hx hb 2 dL_law_558 (by decide) ?_
  refine n_iadd hx hb dL_law_559 ?_
  refine m_sc X Y hX hbl hbA hL (i := n) (k := 2) (by omega) dL_law_560 ?_
  refine lv_aload_n hx hb dL_law_561 rfl (lv_at hl 1 rfl) ?_
  refine m_SWi (As := [.ref (g.1 7 0), .int (sc xs n 1), .int (sc xs n 2), .ref (g.1 13 0)]) (rest := []) X Y hA hcx (c_L_dispute l hlt D kc A e0 M hG hwf.1 (fun t ht => ht) (sc xs n 1) (sc xs n 2)) (vx_cwSW 4 X.1.2.2.2.2 gL_law_L_dispute rfl rfl rfl (by decide +kernel) ⟨Nat.le_of_ble_eq_true rfl, Nat.le_of_ble_eq_true rfl⟩) rfl rfl hl.1 (Nat.le_of_ble_eq_true rfl) dL_law_562 ⟨hCE, hSL⟩ (fun r M1 H locs hp Y => ?_)
  obtain ⟨hr1, g1, o1, hk1, hG1, ho1⟩ := hp
  subst hr1
  have e7 : g1.1 7 0 = g.1 7 0 := hk1 7 0 (by decide) (by decide) (by decide) (by decide)
  have e11 : g1.1 11 0 = g.1 11 0 := hk1 11 0 (by decide) (by decide) (by decide) (by decide)
  have e13 : g1.1 13 0 = g.1 13 0 := hk1 13 0 (by decide) (by decide) (by decide) (by decide)
  rw [← e7, ← e11, ← e13] at hl
  refine lv_istore (lv' := [(5, .int (nI ((sp_dispute σ (sc xs n 1) (sc xs n 2)).1))), (4, .int (nI (4 * n))), (3, .ref (g1.1 13 0)), (2, .ref (g1.1 11 0)), (1, .ref (g1.1 7 0)), (0, .ref b)]) hx hb dL_law_565 hl (by decide) rfl (fun ls hl => ?_)
  refine lv_aload_n hx hb dL_law_567 rfl (lv_at hl 3 rfl) ?_
  refine lv_aload_n hx hb dL_law_568 rfl (lv_at hl 5 rfl) ?_
  refine lv_iload hx hb dL_law_569 (lv_at hl 1 rfl) ?_
  refine n_iconst hx hb 1 dL_law_571 (by decide) ?_
  refine n_iadd hx hb dL_law_572 ?_
  refine m_sc X Y hX hbl hbA hL (i := n) (k := 1) (by omega) dL_law_573 ?_
  refine lv_aload_n hx hb dL_law_574 rfl (lv_at hl 5 rfl) ?_
  refine lv_iload hx hb dL_law_575 (lv_at hl 1 rfl) ?_
  refine n_iconst hx hb 2 dL_law_577 (by decide) ?_
  refine n_iadd hx hb dL_law_578 ?_
  refine m_sc X Y hX hbl hbA hL (i := n) (k := 2) (by omega) dL_law_579 ?_
  refine m_Vi (As := [.int (sc xs n 1), .int (sc xs n 2)]) (rest := []) X Y hA hcx (c_X8_dispute l D kc A e0 M1 hG1 hwf.1 (fun t ht => ht) (sc xs n 1) (sc xs n 2)) (cwV 2 X.1.2.2.2.2 gL_law_X8_dispute rfl rfl rfl (by decide +kernel) ⟨Nat.le_of_ble_eq_true rfl, Nat.le_of_ble_eq_true rfl⟩) (hG1.f11 (show 11 ≤ 13 by decide)) rfl rfl rfl hl.1 (Nat.le_of_ble_eq_true rfl) dL_law_580 ⟨hCE, hSL⟩ (fun r2 M2 H locs hp Y => ?_)
  obtain ⟨hr2, hG2⟩ := hp
  refine lv_istore (lv' := [(6, .int r2), (5, .int (nI ((sp_dispute σ (sc xs n 1) (sc xs n 2)).1))), (4, .int (nI (4 * n))), (3, .ref (g1.1 13 0)), (2, .ref (g1.1 11 0)), (1, .ref (g1.1 7 0)), (0, .ref b)]) hx hb dL_law_583 hl (by decide) rfl (fun ls hl => ?_)
  refine lv_aload_n hx hb dL_law_585 rfl (lv_at hl 4 rfl) ?_
  refine m_Vi (As := []) (rest := []) X Y hA hcx (c_X8_thrown l D kc A e0 M2 hG2 (fun t ht => ht)) (cwV 0 X.1.2.2.2.2 gL_law_X8_thrown rfl rfl rfl (by decide +kernel) ⟨Nat.le_of_ble_eq_true rfl, Nat.le_of_ble_eq_true rfl⟩) (hG2.f11 (show 11 ≤ 13 by decide)) rfl rfl rfl hl.1 (Nat.le_of_ble_eq_true rfl) dL_law_586 ⟨hCE, hSL⟩ (fun r3 M3 H locs hp Y => ?_)
  obtain ⟨hr3, eM⟩ := hp
  subst hr3
  rw [eM] at Y
  have hG3 := hG2
  refine lv_iload hx hb dL_law_589 (lv_at hl 1 rfl) ?_
  refine lv_icmp_eq (tgt := 596) hx hb dL_law_591 (by decide) (fun _ => ?_) (fun zq => absurd rfl zq)
  have hcl := sp_dispute_x σ (sc xs n 1) (sc xs n 2)
  have hcl2 : (sp_dispute σ (sc xs n 1) (sc xs n 2)).1 < 2147483648 := by have z := hcl.1; omega
  refine lv_iload hx hb dL_law_596 (lv_at hl 1 rfl) ?_
  refine n_if_ne hx hb 613 hcl2 dL_law_598 (by decide) (fun hc0 => ?_) (fun hc0 => ?_)
  · refine lv_goto (tgt := 1378) hx hb dL_law_613 (by decide) ?_
    exact kk ((sp_dispute σ (sc xs n 1) (sc xs n 2)).2.2) _ o1 g1 M2 H locs ls hG3 ((WF_sp_dispute hwf (sc xs n 1) (sc xs n 2)).mono (by omega) hn5) Y (lv_sub hl [2, 3, 4, 5, 6] rfl)
  · refine lv_aload_n hx hb dL_law_601 rfl (lv_at hl 3 rfl) ?_
    refine n_iconst hx hb 0 dL_law_602 (by decide) ?_
    refine m_lald X Y (hG3.f13 (show 13 ≤ 13 by decide)) (vp_in_nI (show 0 < 1 by decide) (by decide)) (v := o1) (by rw [nI_cl (show 0 < 2147483648 by decide)]; rfl) dL_law_603 ?_
    refine lv_iload hx hb dL_law_604 (lv_at hl 0 rfl) ?_
    refine lv_i2l hx hb dL_law_606 rfl ?_
    refine W.lcmp hx hb dL_law_607 ?_
    refine lv_if_eq (tgt := 613) hx hb dL_law_608 (by decide) (fun _ => ?_) (fun zq => absurd (by rw [lg_cmp_eq]; exact (ho1 hc0).trans (congrArg Int32.toInt64 hr2.symm)) zq)
    refine lv_goto (tgt := 1378) hx hb dL_law_613 (by decide) ?_
    exact kk ((sp_dispute σ (sc xs n 1) (sc xs n 2)).2.2) _ o1 g1 M2 H locs ls hG3 ((WF_sp_dispute hwf (sc xs n 1) (sc xs n 2)).mono (by omega) hn5) Y (lv_sub hl [2, 3, 4, 5, 6] rfl)
set_option maxHeartbeats 4000000 in
set_option maxRecDepth 100000 in
theorem law_answer {p : Program} {l : Launch} (hlt : l.stackTraces = false) {e : Env} {s : State} {m : MethodId} {below : List Frame} {meth : Method} {c : Code} {H : Heap} {locs : List Loc} {CE SL : Nat} {Q : State → Prop} {D : va_G} {kc : Nat → ClassId} {A : Nat → Prop} {M : Mp} {ls : Array Slot} {e0 : Nat × Nat} {b L : Nat} {xs : Nat → Int32} {σ : Sg} {th : Int32} {o : Int64} {g : Gh} {n : Nat} (X : mX p s m #[Value.ref b] c cL_law 8 RL wsL_law D kc) (hA : ∀ q, s.heap.size ≤ q → A q) (hcx : cx A e0 s) (hX : va_X b L xs s s.heap) (hbl : b < s.heap.size) (hbA : ¬ A b) (hL : L ≤ 2048) (hnL : 4 * n + 4 ≤ L) (hn5 : n + 1 ≤ 600) (hCE : CE + 12 ≤ room_1.cells) (hSL : SL + 320 ≤ room_1.slots) (hG : G prL kc e0 σ σ th o g M) (hwf : WF n σ) (Y : mY D A M s H locs) (hl : lv_has ls 8 (lawL b n g)) (kk : ∀ (σ1 : Sg) (th1 : Int32) (o1 : Int64) (g1 : Gh) (M1 : Mp) (H1 : Heap) (locs1 : List Loc) (ls1 : Array Slot), G prL kc e0 σ1 σ1 th1 o1 g1 M1 → WF (n + 1) σ1 → mY D A M1 s H1 locs1 → lv_has ls1 8 (lawL b n g1) → W p l e room_1 s m #[Value.ref b] below meth c H1 locs1 (CE + 12) (SL + 320) Q (F0 m 1378 ls1 [])) : W p l e room_1 s m #[Value.ref b] below meth c H locs CE SL Q (F0 m 616 ls []) := by
  have hx := X.1.1
  have hb := X.1.2.1
  replace hl : lv_has ls 8 [(4, .int (nI (4 * n))), (3, .ref (g.1 13 0)), (2, .ref (g.1 11 0)), (1, .ref (g.1 7 0)), (0, .ref b)] := hl
  refine lv_aload_n hx hb dL_law_616 rfl (lv_at hl 3 rfl) ?_
  refine lv_aload_n hx hb dL_law_617 rfl (lv_at hl 4 rfl) ?_
  refine lv_iload hx hb dL_law_618 (lv_at hl 0 rfl) ?_
  refine n_iconst hx hb 1 dL_law_620 (by decide) ?_
  refine n_iadd hx hb dL_law_621 ?_
  refine m_sc X Y hX hbl hbA hL (i := n) (k := 1) (by omega) dL_law_622 ?_
  refine lv_aload_n hx hb dL_law_623 rfl (lv_at hl 1 rfl) ?_
  refine m_SWi (As := [.ref (g.1 7 0), .int (sc xs n 1), .ref (g.1 13 0)]) (rest := []) X Y hA hcx (c_L_answer l hlt D kc A e0 M hG hwf.1 (fun t ht => ht) (sc xs n 1)) (vx_cwSW 3 X.1.2.2.2.2 gL_law_L_answer rfl rfl rfl (by decide +kernel) ⟨Nat.le_of_ble_eq_true rfl, Nat.le_of_ble_eq_true rfl⟩) rfl rfl hl.1 (Nat.le_of_ble_eq_true rfl) dL_law_624 ⟨hCE, hSL⟩ (fun r M1 H locs hp Y => ?_)
  obtain ⟨hr1, g1, o1, hk1, hG1, ho1⟩ := hp
  subst hr1
  have e7 : g1.1 7 0 = g.1 7 0 := hk1 7 0 (by decide) (by decide) (by decide) (by decide)
  have e11 : g1.1 11 0 = g.1 11 0 := hk1 11 0 (by decide) (by decide) (by decide) (by decide)
  have e13 : g1.1 13 0 = g.1 13 0 := hk1 13 0 (by decide) (by decide) (by decide) (by decide)
  rw [← e7, ← e11, ← e13] at hl
  refine lv_istore (lv' := [(5, .int (nI ((sp_answer σ (sc xs n 1)).1))), (4, .int (nI (4 * n))), (3, .ref (g1.1 13 0)), (2, .ref (g1.1 11 0)), (1, .ref (g1.1 7 0)), (0, .ref b)]) hx hb dL_law_627 hl (by decide) rfl (fun ls hl => ?_)
  refine lv_aload_n hx hb dL_law_629 rfl (lv_at hl 3 rfl) ?_
  refine lv_aload_n hx hb dL_law_630 rfl (lv_at hl 5 rfl) ?_
  refine lv_iload hx hb dL_law_631 (lv_at hl 1 rfl) ?_
  refine n_iconst hx hb 1 dL_law_633 (by decide) ?_
  refine n_iadd hx hb dL_law_634 ?_
  refine m_sc X Y hX hbl hbA hL (i := n) (k := 1) (by omega) dL_law_635 ?_
  refine m_Vi (As := [.int (sc xs n 1)]) (rest := []) X Y hA hcx (c_X8_answer l D kc A e0 M1 hG1 hwf.1 (fun t ht => ht) (sc xs n 1)) (cwV 1 X.1.2.2.2.2 gL_law_X8_answer rfl rfl rfl (by decide +kernel) ⟨Nat.le_of_ble_eq_true rfl, Nat.le_of_ble_eq_true rfl⟩) (hG1.f11 (show 11 ≤ 13 by decide)) rfl rfl rfl hl.1 (Nat.le_of_ble_eq_true rfl) dL_law_636 ⟨hCE, hSL⟩ (fun r2 M2 H locs hp Y => ?_)
  obtain ⟨hr2, hG2⟩ := hp
  refine lv_istore (lv' := [(6, .int r2), (5, .int (nI ((sp_answer σ (sc xs n 1)).1))), (4, .int (nI (4 * n))), (3, .ref (g1.1 13 0)), (2, .ref (g1.1 11 0)), (1, .ref (g1.1 7 0)), (0, .ref b)]) hx hb dL_law_639 hl (by decide) rfl (fun ls hl => ?_)
  refine lv_aload_n hx hb dL_law_641 rfl (lv_at hl 4 rfl) ?_
  refine m_Vi (As := []) (rest := []) X Y hA hcx (c_X8_thrown l D kc A e0 M2 hG2 (fun t ht => ht)) (cwV 0 X.1.2.2.2.2 gL_law_X8_thrown rfl rfl rfl (by decide +kernel) ⟨Nat.le_of_ble_eq_true rfl, Nat.le_of_ble_eq_true rfl⟩) (hG2.f11 (show 11 ≤ 13 by decide)) rfl rfl rfl hl.1 (Nat.le_of_ble_eq_true rfl) dL_law_642 ⟨hCE, hSL⟩ (fun r3 M3 H locs hp Y => ?_)
  obtain ⟨hr3, eM⟩ := hp
  subst hr3
  rw [eM] at Y
  have hG3 := hG2
  refine lv_iload hx hb dL_law_645 (lv_at hl 1 rfl) ?_
  refine lv_icmp_eq (tgt := 652) hx hb dL_law_647 (by decide) (fun _ => ?_) (fun zq => absurd rfl zq)
  have hcl := sp_answer_x σ (sc xs n 1)
  have hcl2 : (sp_answer σ (sc xs n 1)).1 < 2147483648 := by have z := hcl.1; omega
  refine lv_iload hx hb dL_law_652 (lv_at hl 1 rfl) ?_
  refine n_if_ne hx hb 669 hcl2 dL_law_654 (by decide) (fun hc0 => ?_) (fun hc0 => ?_)
  · refine lv_goto (tgt := 1378) hx hb dL_law_669 (by decide) ?_
    exact kk ((sp_answer σ (sc xs n 1)).2.2) _ o1 g1 M2 H locs ls hG3 ((WF_sp_answer hwf (sc xs n 1)).mono (by omega) hn5) Y (lv_sub hl [2, 3, 4, 5, 6] rfl)
  · refine lv_aload_n hx hb dL_law_657 rfl (lv_at hl 3 rfl) ?_
    refine n_iconst hx hb 0 dL_law_658 (by decide) ?_
    refine m_lald X Y (hG3.f13 (show 13 ≤ 13 by decide)) (vp_in_nI (show 0 < 1 by decide) (by decide)) (v := o1) (by rw [nI_cl (show 0 < 2147483648 by decide)]; rfl) dL_law_659 ?_
    refine lv_iload hx hb dL_law_660 (lv_at hl 0 rfl) ?_
    refine lv_i2l hx hb dL_law_662 rfl ?_
    refine W.lcmp hx hb dL_law_663 ?_
    refine lv_if_eq (tgt := 669) hx hb dL_law_664 (by decide) (fun _ => ?_) (fun zq => absurd (by rw [lg_cmp_eq]; exact (ho1 hc0).trans (congrArg Int32.toInt64 hr2.symm)) zq)
    refine lv_goto (tgt := 1378) hx hb dL_law_669 (by decide) ?_
    exact kk ((sp_answer σ (sc xs n 1)).2.2) _ o1 g1 M2 H locs ls hG3 ((WF_sp_answer hwf (sc xs n 1)).mono (by omega) hn5) Y (lv_sub hl [2, 3, 4, 5, 6] rfl)
set_option maxHeartbeats 4000000 in
set_option maxRecDepth 100000 in
theorem law_press {p : Program} {l : Launch} (hlt : l.stackTraces = false) {e : Env} {s : State} {m : MethodId} {below : List Frame} {meth : Method} {c : Code} {H : Heap} {locs : List Loc} {CE SL : Nat} {Q : State → Prop} {D : va_G} {kc : Nat → ClassId} {A : Nat → Prop} {M : Mp} {ls : Array Slot} {e0 : Nat × Nat} {b L : Nat} {xs : Nat → Int32} {σ : Sg} {th : Int32} {o : Int64} {g : Gh} {n : Nat} (X : mX p s m #[Value.ref b] c cL_law 8 RL wsL_law D kc) (hA : ∀ q, s.heap.size ≤ q → A q) (hcx : cx A e0 s) (hX : va_X b L xs s s.heap) (hbl : b < s.heap.size) (hbA : ¬ A b) (hL : L ≤ 2048) (hnL : 4 * n + 4 ≤ L) (hn5 : n + 1 ≤ 600) (hCE : CE + 12 ≤ room_1.cells) (hSL : SL + 320 ≤ room_1.slots) (hG : G prL kc e0 σ σ th o g M) (hwf : WF n σ) (Y : mY D A M s H locs) (hl : lv_has ls 8 (lawL b n g)) (kk : ∀ (σ1 : Sg) (th1 : Int32) (o1 : Int64) (g1 : Gh) (M1 : Mp) (H1 : Heap) (locs1 : List Loc) (ls1 : Array Slot), G prL kc e0 σ1 σ1 th1 o1 g1 M1 → WF (n + 1) σ1 → mY D A M1 s H1 locs1 → lv_has ls1 8 (lawL b n g1) → W p l e room_1 s m #[Value.ref b] below meth c H1 locs1 (CE + 12) (SL + 320) Q (F0 m 1378 ls1 [])) : W p l e room_1 s m #[Value.ref b] below meth c H locs CE SL Q (F0 m 672 ls []) := by
  have hx := X.1.1
  have hb := X.1.2.1
  replace hl : lv_has ls 8 [(4, .int (nI (4 * n))), (3, .ref (g.1 13 0)), (2, .ref (g.1 11 0)), (1, .ref (g.1 7 0)), (0, .ref b)] := hl
  refine lv_aload_n hx hb dL_law_672 rfl (lv_at hl 3 rfl) ?_
  refine lv_aload_n hx hb dL_law_673 rfl (lv_at hl 4 rfl) ?_
  refine lv_iload hx hb dL_law_674 (lv_at hl 0 rfl) ?_
  refine n_iconst hx hb 1 dL_law_676 (by decide) ?_
  refine n_iadd hx hb dL_law_677 ?_
  refine m_sc X Y hX hbl hbA hL (i := n) (k := 1) (by omega) dL_law_678 ?_
  refine lv_aload_n hx hb dL_law_679 rfl (lv_at hl 1 rfl) ?_
  refine m_SWi (As := [.ref (g.1 7 0), .int (sc xs n 1), .ref (g.1 13 0)]) (rest := []) X Y hA hcx (c_L_press l hlt D kc A e0 M hG hwf.1 (fun t ht => ht) (sc xs n 1)) (vx_cwSW 3 X.1.2.2.2.2 gL_law_L_press rfl rfl rfl (by decide +kernel) ⟨Nat.le_of_ble_eq_true rfl, Nat.le_of_ble_eq_true rfl⟩) rfl rfl hl.1 (Nat.le_of_ble_eq_true rfl) dL_law_680 ⟨hCE, hSL⟩ (fun r M1 H locs hp Y => ?_)
  obtain ⟨hr1, g1, o1, hk1, hG1, ho1⟩ := hp
  subst hr1
  have e7 : g1.1 7 0 = g.1 7 0 := hk1 7 0 (by decide) (by decide) (by decide) (by decide)
  have e11 : g1.1 11 0 = g.1 11 0 := hk1 11 0 (by decide) (by decide) (by decide) (by decide)
  have e13 : g1.1 13 0 = g.1 13 0 := hk1 13 0 (by decide) (by decide) (by decide) (by decide)
  rw [← e7, ← e11, ← e13] at hl
  refine lv_istore (lv' := [(5, .int (nI ((sp_press σ (sc xs n 1)).1))), (4, .int (nI (4 * n))), (3, .ref (g1.1 13 0)), (2, .ref (g1.1 11 0)), (1, .ref (g1.1 7 0)), (0, .ref b)]) hx hb dL_law_683 hl (by decide) rfl (fun ls hl => ?_)
  refine lv_aload_n hx hb dL_law_685 rfl (lv_at hl 3 rfl) ?_
  refine lv_aload_n hx hb dL_law_686 rfl (lv_at hl 5 rfl) ?_
  refine lv_iload hx hb dL_law_687 (lv_at hl 1 rfl) ?_
  refine n_iconst hx hb 1 dL_law_689 (by decide) ?_
  refine n_iadd hx hb dL_law_690 ?_
  refine m_sc X Y hX hbl hbA hL (i := n) (k := 1) (by omega) dL_law_691 ?_
  refine m_Vi (As := [.int (sc xs n 1)]) (rest := []) X Y hA hcx (c_X8_press l D kc A e0 M1 hG1 hwf.1 (fun t ht => ht) (sc xs n 1)) (cwV 1 X.1.2.2.2.2 gL_law_X8_press rfl rfl rfl (by decide +kernel) ⟨Nat.le_of_ble_eq_true rfl, Nat.le_of_ble_eq_true rfl⟩) (hG1.f11 (show 11 ≤ 13 by decide)) rfl rfl rfl hl.1 (Nat.le_of_ble_eq_true rfl) dL_law_692 ⟨hCE, hSL⟩ (fun r2 M2 H locs hp Y => ?_)
  obtain ⟨hr2, hG2⟩ := hp
  refine lv_istore (lv' := [(6, .int r2), (5, .int (nI ((sp_press σ (sc xs n 1)).1))), (4, .int (nI (4 * n))), (3, .ref (g1.1 13 0)), (2, .ref (g1.1 11 0)), (1, .ref (g1.1 7 0)), (0, .ref b)]) hx hb dL_law_695 hl (by decide) rfl (fun ls hl => ?_)
  refine lv_aload_n hx hb dL_law_697 rfl (lv_at hl 4 rfl) ?_
  refine m_Vi (As := []) (rest := []) X Y hA hcx (c_X8_thrown l D kc A e0 M2 hG2 (fun t ht => ht)) (cwV 0 X.1.2.2.2.2 gL_law_X8_thrown rfl rfl rfl (by decide +kernel) ⟨Nat.le_of_ble_eq_true rfl, Nat.le_of_ble_eq_true rfl⟩) (hG2.f11 (show 11 ≤ 13 by decide)) rfl rfl rfl hl.1 (Nat.le_of_ble_eq_true rfl) dL_law_698 ⟨hCE, hSL⟩ (fun r3 M3 H locs hp Y => ?_)
  obtain ⟨hr3, eM⟩ := hp
  subst hr3
  rw [eM] at Y
  have hG3 := hG2
  refine lv_iload hx hb dL_law_701 (lv_at hl 1 rfl) ?_
  refine lv_icmp_eq (tgt := 708) hx hb dL_law_703 (by decide) (fun _ => ?_) (fun zq => absurd rfl zq)
  have hcl := sp_press_x σ (sc xs n 1)
  have hcl2 : (sp_press σ (sc xs n 1)).1 < 2147483648 := by have z := hcl.1; omega
  refine lv_iload hx hb dL_law_708 (lv_at hl 1 rfl) ?_
  refine n_if_ne hx hb 725 hcl2 dL_law_710 (by decide) (fun hc0 => ?_) (fun hc0 => ?_)
  · refine lv_goto (tgt := 1378) hx hb dL_law_725 (by decide) ?_
    exact kk ((sp_press σ (sc xs n 1)).2.2) _ o1 g1 M2 H locs ls hG3 ((WF_sp_press hwf (sc xs n 1)).mono (by omega) hn5) Y (lv_sub hl [2, 3, 4, 5, 6] rfl)
  · refine lv_aload_n hx hb dL_law_713 rfl (lv_at hl 3 rfl) ?_
    refine n_iconst hx hb 0 dL_law_714 (by decide) ?_
    refine m_lald X Y (hG3.f13 (show 13 ≤ 13 by decide)) (vp_in_nI (show 0 < 1 by decide) (by decide)) (v := o1) (by rw [nI_cl (show 0 < 2147483648 by decide)]; rfl) dL_law_715 ?_
    refine lv_iload hx hb dL_law_716 (lv_at hl 0 rfl) ?_
    refine lv_i2l hx hb dL_law_718 rfl ?_
    refine W.lcmp hx hb dL_law_719 ?_
    refine lv_if_eq (tgt := 725) hx hb dL_law_720 (by decide) (fun _ => ?_) (fun zq => absurd (by rw [lg_cmp_eq]; exact (ho1 hc0).trans (congrArg Int32.toInt64 hr2.symm)) zq)
    refine lv_goto (tgt := 1378) hx hb dL_law_725 (by decide) ?_
    exact kk ((sp_press σ (sc xs n 1)).2.2) _ o1 g1 M2 H locs ls hG3 ((WF_sp_press hwf (sc xs n 1)).mono (by omega) hn5) Y (lv_sub hl [2, 3, 4, 5, 6] rfl)
set_option maxHeartbeats 4000000 in
set_option maxRecDepth 100000 in
theorem law_rule {p : Program} {l : Launch} (hlt : l.stackTraces = false) {e : Env} {s : State} {m : MethodId} {below : List Frame} {meth : Method} {c : Code} {H : Heap} {locs : List Loc} {CE SL : Nat} {Q : State → Prop} {D : va_G} {kc : Nat → ClassId} {A : Nat → Prop} {M : Mp} {ls : Array Slot} {e0 : Nat × Nat} {b L : Nat} {xs : Nat → Int32} {σ : Sg} {th : Int32} {o : Int64} {g : Gh} {n : Nat} (X : mX p s m #[Value.ref b] c cL_law 8 RL wsL_law D kc) (hA : ∀ q, s.heap.size ≤ q → A q) (hcx : cx A e0 s) (hX : va_X b L xs s s.heap) (hbl : b < s.heap.size) (hbA : ¬ A b) (hL : L ≤ 2048) (hnL : 4 * n + 4 ≤ L) (hn5 : n + 1 ≤ 600) (hCE : CE + 12 ≤ room_1.cells) (hSL : SL + 320 ≤ room_1.slots) (hG : G prL kc e0 σ σ th o g M) (hwf : WF n σ) (Y : mY D A M s H locs) (hl : lv_has ls 8 (lawL b n g)) (kk : ∀ (σ1 : Sg) (th1 : Int32) (o1 : Int64) (g1 : Gh) (M1 : Mp) (H1 : Heap) (locs1 : List Loc) (ls1 : Array Slot), G prL kc e0 σ1 σ1 th1 o1 g1 M1 → WF (n + 1) σ1 → mY D A M1 s H1 locs1 → lv_has ls1 8 (lawL b n g1) → W p l e room_1 s m #[Value.ref b] below meth c H1 locs1 (CE + 12) (SL + 320) Q (F0 m 1378 ls1 [])) : W p l e room_1 s m #[Value.ref b] below meth c H locs CE SL Q (F0 m 728 ls []) := by
  have hx := X.1.1
  have hb := X.1.2.1
  replace hl : lv_has ls 8 [(4, .int (nI (4 * n))), (3, .ref (g.1 13 0)), (2, .ref (g.1 11 0)), (1, .ref (g.1 7 0)), (0, .ref b)] := hl
  by_cases hbz : sc xs n 2 = 0
  · refine lv_aload_n hx hb dL_law_728 rfl (lv_at hl 3 rfl) ?_
    refine lv_aload_n hx hb dL_law_729 rfl (lv_at hl 4 rfl) ?_
    refine lv_iload hx hb dL_law_730 (lv_at hl 0 rfl) ?_
    refine n_iconst hx hb 1 dL_law_732 (by decide) ?_
    refine n_iadd hx hb dL_law_733 ?_
    refine m_sc X Y hX hbl hbA hL (i := n) (k := 1) (by omega) dL_law_734 ?_
    refine lv_aload_n hx hb dL_law_735 rfl (lv_at hl 4 rfl) ?_
    refine lv_iload hx hb dL_law_736 (lv_at hl 0 rfl) ?_
    refine n_iconst hx hb 2 dL_law_738 (by decide) ?_
    refine n_iadd hx hb dL_law_739 ?_
    refine m_sc X Y hX hbl hbA hL (i := n) (k := 2) (by omega) dL_law_740 ?_
    refine lv_if_eq (tgt := 748) hx hb dL_law_741 (by decide) (fun _ => ?_) (fun zq => absurd hbz zq)
    refine n_iconst hx hb 0 dL_law_748 (by decide) ?_
    refine lv_aload_n hx hb dL_law_749 rfl (lv_at hl 1 rfl) ?_
    refine m_SWi (As := [.ref (g.1 7 0), .int (sc xs n 1), .int (nI 0), .ref (g.1 13 0)]) (rest := []) X Y hA hcx (c_L_rule l hlt D kc A e0 M hG hwf.1 (fun t ht => ht) (sc xs n 1) false) (vx_cwSW 4 X.1.2.2.2.2 gL_law_L_rule rfl rfl rfl (by decide +kernel) ⟨Nat.le_of_ble_eq_true rfl, Nat.le_of_ble_eq_true rfl⟩) rfl rfl hl.1 (Nat.le_of_ble_eq_true rfl) dL_law_750 ⟨hCE, hSL⟩ (fun r M1 H locs hp Y => ?_)
    obtain ⟨hr1, g1, o1, hk1, hG1, ho1⟩ := hp
    subst hr1
    have e7 : g1.1 7 0 = g.1 7 0 := hk1 7 0 (by decide) (by decide) (by decide) (by decide)
    have e11 : g1.1 11 0 = g.1 11 0 := hk1 11 0 (by decide) (by decide) (by decide) (by decide)
    have e13 : g1.1 13 0 = g.1 13 0 := hk1 13 0 (by decide) (by decide) (by decide) (by decide)
    rw [← e7, ← e11, ← e13] at hl
    refine lv_istore (lv' := [(5, .int (nI ((sp_rule σ (sc xs n 1) false).1))), (4, .int (nI (4 * n))), (3, .ref (g1.1 13 0)), (2, .ref (g1.1 11 0)), (1, .ref (g1.1 7 0)), (0, .ref b)]) hx hb dL_law_753 hl (by decide) rfl (fun ls hl => ?_)
    refine lv_aload_n hx hb dL_law_755 rfl (lv_at hl 3 rfl) ?_
    refine lv_aload_n hx hb dL_law_756 rfl (lv_at hl 5 rfl) ?_
    refine lv_iload hx hb dL_law_757 (lv_at hl 1 rfl) ?_
    refine n_iconst hx hb 1 dL_law_759 (by decide) ?_
    refine n_iadd hx hb dL_law_760 ?_
    refine m_sc X Y hX hbl hbA hL (i := n) (k := 1) (by omega) dL_law_761 ?_
    refine lv_aload_n hx hb dL_law_762 rfl (lv_at hl 5 rfl) ?_
    refine lv_iload hx hb dL_law_763 (lv_at hl 1 rfl) ?_
    refine n_iconst hx hb 2 dL_law_765 (by decide) ?_
    refine n_iadd hx hb dL_law_766 ?_
    refine m_sc X Y hX hbl hbA hL (i := n) (k := 2) (by omega) dL_law_767 ?_
    refine lv_if_eq (tgt := 775) hx hb dL_law_768 (by decide) (fun _ => ?_) (fun zq => absurd hbz zq)
    refine n_iconst hx hb 0 dL_law_775 (by decide) ?_
    refine m_Vi (As := [.int (sc xs n 1), .int (nI 0)]) (rest := []) X Y hA hcx (c_X8_rule l D kc A e0 M1 hG1 hwf.1 (fun t ht => ht) (sc xs n 1) false) (cwV 2 X.1.2.2.2.2 gL_law_X8_rule rfl rfl rfl (by decide +kernel) ⟨Nat.le_of_ble_eq_true rfl, Nat.le_of_ble_eq_true rfl⟩) (hG1.f11 (show 11 ≤ 13 by decide)) rfl rfl rfl hl.1 (Nat.le_of_ble_eq_true rfl) dL_law_776 ⟨hCE, hSL⟩ (fun r2 M2 H locs hp Y => ?_)
    obtain ⟨hr2, hG2⟩ := hp
    refine lv_istore (lv' := [(6, .int r2), (5, .int (nI ((sp_rule σ (sc xs n 1) false).1))), (4, .int (nI (4 * n))), (3, .ref (g1.1 13 0)), (2, .ref (g1.1 11 0)), (1, .ref (g1.1 7 0)), (0, .ref b)]) hx hb dL_law_779 hl (by decide) rfl (fun ls hl => ?_)
    refine lv_aload_n hx hb dL_law_781 rfl (lv_at hl 4 rfl) ?_
    refine m_Vi (As := []) (rest := []) X Y hA hcx (c_X8_thrown l D kc A e0 M2 hG2 (fun t ht => ht)) (cwV 0 X.1.2.2.2.2 gL_law_X8_thrown rfl rfl rfl (by decide +kernel) ⟨Nat.le_of_ble_eq_true rfl, Nat.le_of_ble_eq_true rfl⟩) (hG2.f11 (show 11 ≤ 13 by decide)) rfl rfl rfl hl.1 (Nat.le_of_ble_eq_true rfl) dL_law_782 ⟨hCE, hSL⟩ (fun r3 M3 H locs hp Y => ?_)
    obtain ⟨hr3, eM⟩ := hp
    subst hr3
    rw [eM] at Y
    have hG3 := hG2
    refine lv_iload hx hb dL_law_785 (lv_at hl 1 rfl) ?_
    refine lv_icmp_eq (tgt := 792) hx hb dL_law_787 (by decide) (fun _ => ?_) (fun zq => absurd rfl zq)
    have hcl := sp_rule_x σ (sc xs n 1) false
    have hcl2 : (sp_rule σ (sc xs n 1) false).1 < 2147483648 := by have z := hcl.1; omega
    refine lv_iload hx hb dL_law_792 (lv_at hl 1 rfl) ?_
    refine n_if_ne hx hb 809 hcl2 dL_law_794 (by decide) (fun hc0 => ?_) (fun hc0 => ?_)
    · refine lv_goto (tgt := 1378) hx hb dL_law_809 (by decide) ?_
      exact kk ((sp_rule σ (sc xs n 1) false).2.2) _ o1 g1 M2 H locs ls hG3 ((WF_sp_rule hwf (sc xs n 1) false).mono (by omega) hn5) Y (lv_sub hl [2, 3, 4, 5, 6] rfl)
    · refine lv_aload_n hx hb dL_law_797 rfl (lv_at hl 3 rfl) ?_
      refine n_iconst hx hb 0 dL_law_798 (by decide) ?_
      refine m_lald X Y (hG3.f13 (show 13 ≤ 13 by decide)) (vp_in_nI (show 0 < 1 by decide) (by decide)) (v := o1) (by rw [nI_cl (show 0 < 2147483648 by decide)]; rfl) dL_law_799 ?_
      refine lv_iload hx hb dL_law_800 (lv_at hl 0 rfl) ?_
      refine lv_i2l hx hb dL_law_802 rfl ?_
      refine W.lcmp hx hb dL_law_803 ?_
      refine lv_if_eq (tgt := 809) hx hb dL_law_804 (by decide) (fun _ => ?_) (fun zq => absurd (by rw [lg_cmp_eq]; exact (ho1 hc0).trans (congrArg Int32.toInt64 hr2.symm)) zq)
      refine lv_goto (tgt := 1378) hx hb dL_law_809 (by decide) ?_
      exact kk ((sp_rule σ (sc xs n 1) false).2.2) _ o1 g1 M2 H locs ls hG3 ((WF_sp_rule hwf (sc xs n 1) false).mono (by omega) hn5) Y (lv_sub hl [2, 3, 4, 5, 6] rfl)
  · refine lv_aload_n hx hb dL_law_728 rfl (lv_at hl 3 rfl) ?_
    refine lv_aload_n hx hb dL_law_729 rfl (lv_at hl 4 rfl) ?_
    refine lv_iload hx hb dL_law_730 (lv_at hl 0 rfl) ?_
    refine n_iconst hx hb 1 dL_law_732 (by decide) ?_
    refine n_iadd hx hb dL_law_733 ?_
    refine m_sc X Y hX hbl hbA hL (i := n) (k := 1) (by omega) dL_law_734 ?_
    refine lv_aload_n hx hb dL_law_735 rfl (lv_at hl 4 rfl) ?_
    refine lv_iload hx hb dL_law_736 (lv_at hl 0 rfl) ?_
    refine n_iconst hx hb 2 dL_law_738 (by decide) ?_
    refine n_iadd hx hb dL_law_739 ?_
    refine m_sc X Y hX hbl hbA hL (i := n) (k := 2) (by omega) dL_law_740 ?_
    refine lv_if_eq (tgt := 748) hx hb dL_law_741 (by decide) (fun zq => absurd zq hbz) (fun _ => ?_)
    refine n_iconst hx hb 1 dL_law_744 (by decide) ?_
    refine lv_goto (tgt := 749) hx hb dL_law_745 (by decide) ?_
    refine lv_aload_n hx hb dL_law_749 rfl (lv_at hl 1 rfl) ?_
    refine m_SWi (As := [.ref (g.1 7 0), .int (sc xs n 1), .int (nI 1), .ref (g.1 13 0)]) (rest := []) X Y hA hcx (c_L_rule l hlt D kc A e0 M hG hwf.1 (fun t ht => ht) (sc xs n 1) true) (vx_cwSW 4 X.1.2.2.2.2 gL_law_L_rule rfl rfl rfl (by decide +kernel) ⟨Nat.le_of_ble_eq_true rfl, Nat.le_of_ble_eq_true rfl⟩) rfl rfl hl.1 (Nat.le_of_ble_eq_true rfl) dL_law_750 ⟨hCE, hSL⟩ (fun r M1 H locs hp Y => ?_)
    obtain ⟨hr1, g1, o1, hk1, hG1, ho1⟩ := hp
    subst hr1
    have e7 : g1.1 7 0 = g.1 7 0 := hk1 7 0 (by decide) (by decide) (by decide) (by decide)
    have e11 : g1.1 11 0 = g.1 11 0 := hk1 11 0 (by decide) (by decide) (by decide) (by decide)
    have e13 : g1.1 13 0 = g.1 13 0 := hk1 13 0 (by decide) (by decide) (by decide) (by decide)
    rw [← e7, ← e11, ← e13] at hl
    refine lv_istore (lv' := [(5, .int (nI ((sp_rule σ (sc xs n 1) true).1))), (4, .int (nI (4 * n))), (3, .ref (g1.1 13 0)), (2, .ref (g1.1 11 0)), (1, .ref (g1.1 7 0)), (0, .ref b)]) hx hb dL_law_753 hl (by decide) rfl (fun ls hl => ?_)
    refine lv_aload_n hx hb dL_law_755 rfl (lv_at hl 3 rfl) ?_
    refine lv_aload_n hx hb dL_law_756 rfl (lv_at hl 5 rfl) ?_
    refine lv_iload hx hb dL_law_757 (lv_at hl 1 rfl) ?_
    refine n_iconst hx hb 1 dL_law_759 (by decide) ?_
    refine n_iadd hx hb dL_law_760 ?_
    refine m_sc X Y hX hbl hbA hL (i := n) (k := 1) (by omega) dL_law_761 ?_
    refine lv_aload_n hx hb dL_law_762 rfl (lv_at hl 5 rfl) ?_
    refine lv_iload hx hb dL_law_763 (lv_at hl 1 rfl) ?_
    refine n_iconst hx hb 2 dL_law_765 (by decide) ?_
    refine n_iadd hx hb dL_law_766 ?_
    refine m_sc X Y hX hbl hbA hL (i := n) (k := 2) (by omega) dL_law_767 ?_
    refine lv_if_eq (tgt := 775) hx hb dL_law_768 (by decide) (fun zq => absurd zq hbz) (fun _ => ?_)
    refine n_iconst hx hb 1 dL_law_771 (by decide) ?_
    refine lv_goto (tgt := 776) hx hb dL_law_772 (by decide) ?_
    refine m_Vi (As := [.int (sc xs n 1), .int (nI 1)]) (rest := []) X Y hA hcx (c_X8_rule l D kc A e0 M1 hG1 hwf.1 (fun t ht => ht) (sc xs n 1) true) (cwV 2 X.1.2.2.2.2 gL_law_X8_rule rfl rfl rfl (by decide +kernel) ⟨Nat.le_of_ble_eq_true rfl, Nat.le_of_ble_eq_true rfl⟩) (hG1.f11 (show 11 ≤ 13 by decide)) rfl rfl rfl hl.1 (Nat.le_of_ble_eq_true rfl) dL_law_776 ⟨hCE, hSL⟩ (fun r2 M2 H locs hp Y => ?_)
    obtain ⟨hr2, hG2⟩ := hp
    refine lv_istore (lv' := [(6, .int r2), (5, .int (nI ((sp_rule σ (sc xs n 1) true).1))), (4, .int (nI (4 * n))), (3, .ref (g1.1 13 0)), (2, .ref (g1.1 11 0)), (1, .ref (g1.1 7 0)), (0, .ref b)]) hx hb dL_law_779 hl (by decide) rfl (fun ls hl => ?_)
    refine lv_aload_n hx hb dL_law_781 rfl (lv_at hl 4 rfl) ?_
    refine m_Vi (As := []) (rest := []) X Y hA hcx (c_X8_thrown l D kc A e0 M2 hG2 (fun t ht => ht)) (cwV 0 X.1.2.2.2.2 gL_law_X8_thrown rfl rfl rfl (by decide +kernel) ⟨Nat.le_of_ble_eq_true rfl, Nat.le_of_ble_eq_true rfl⟩) (hG2.f11 (show 11 ≤ 13 by decide)) rfl rfl rfl hl.1 (Nat.le_of_ble_eq_true rfl) dL_law_782 ⟨hCE, hSL⟩ (fun r3 M3 H locs hp Y => ?_)
    obtain ⟨hr3, eM⟩ := hp
    subst hr3
    rw [eM] at Y
    have hG3 := hG2
    refine lv_iload hx hb dL_law_785 (lv_at hl 1 rfl) ?_
    refine lv_icmp_eq (tgt := 792) hx hb dL_law_787 (by decide) (fun _ => ?_) (fun zq => absurd rfl zq)
    have hcl := sp_rule_x σ (sc xs n 1) true
    have hcl2 : (sp_rule σ (sc xs n 1) true).1 < 2147483648 := by have z := hcl.1; omega
    refine lv_iload hx hb dL_law_792 (lv_at hl 1 rfl) ?_
    refine n_if_ne hx hb 809 hcl2 dL_law_794 (by decide) (fun hc0 => ?_) (fun hc0 => ?_)
    · refine lv_goto (tgt := 1378) hx hb dL_law_809 (by decide) ?_
      exact kk ((sp_rule σ (sc xs n 1) true).2.2) _ o1 g1 M2 H locs ls hG3 ((WF_sp_rule hwf (sc xs n 1) true).mono (by omega) hn5) Y (lv_sub hl [2, 3, 4, 5, 6] rfl)
    · refine lv_aload_n hx hb dL_law_797 rfl (lv_at hl 3 rfl) ?_
      refine n_iconst hx hb 0 dL_law_798 (by decide) ?_
      refine m_lald X Y (hG3.f13 (show 13 ≤ 13 by decide)) (vp_in_nI (show 0 < 1 by decide) (by decide)) (v := o1) (by rw [nI_cl (show 0 < 2147483648 by decide)]; rfl) dL_law_799 ?_
      refine lv_iload hx hb dL_law_800 (lv_at hl 0 rfl) ?_
      refine lv_i2l hx hb dL_law_802 rfl ?_
      refine W.lcmp hx hb dL_law_803 ?_
      refine lv_if_eq (tgt := 809) hx hb dL_law_804 (by decide) (fun _ => ?_) (fun zq => absurd (by rw [lg_cmp_eq]; exact (ho1 hc0).trans (congrArg Int32.toInt64 hr2.symm)) zq)
      refine lv_goto (tgt := 1378) hx hb dL_law_809 (by decide) ?_
      exact kk ((sp_rule σ (sc xs n 1) true).2.2) _ o1 g1 M2 H locs ls hG3 ((WF_sp_rule hwf (sc xs n 1) true).mono (by omega) hn5) Y (lv_sub hl [2, 3, 4, 5, 6] rfl)
set_option maxHeartbeats 4000000 in
set_option maxRecDepth 100000 in
theorem law_pass {p : Program} {l : Launch} (hlt : l.stackTraces = false) {e : Env} {s : State} {m : MethodId} {below : List Frame} {meth : Method} {c : Code} {H : Heap} {locs : List Loc} {CE SL : Nat} {Q : State → Prop} {D : va_G} {kc : Nat → ClassId} {A : Nat → Prop} {M : Mp} {ls : Array Slot} {e0 : Nat × Nat} {b L : Nat} {xs : Nat → Int32} {σ : Sg} {th : Int32} {o : Int64} {g : Gh} {n : Nat} (X : mX p s m #[Value.ref b] c cL_law 8 RL wsL_law D kc) (hA : ∀ q, s.heap.size ≤ q → A q) (hcx : cx A e0 s) (hX : va_X b L xs s s.heap) (hbl : b < s.heap.size) (hbA : ¬ A b) (hL : L ≤ 2048) (hnL : 4 * n + 4 ≤ L) (hn5 : n + 1 ≤ 600) (hCE : CE + 12 ≤ room_1.cells) (hSL : SL + 320 ≤ room_1.slots) (hG : G prL kc e0 σ σ th o g M) (hwf : WF n σ) (Y : mY D A M s H locs) (hl : lv_has ls 8 (lawL b n g)) (kk : ∀ (σ1 : Sg) (th1 : Int32) (o1 : Int64) (g1 : Gh) (M1 : Mp) (H1 : Heap) (locs1 : List Loc) (ls1 : Array Slot), G prL kc e0 σ1 σ1 th1 o1 g1 M1 → WF (n + 1) σ1 → mY D A M1 s H1 locs1 → lv_has ls1 8 (lawL b n g1) → W p l e room_1 s m #[Value.ref b] below meth c H1 locs1 (CE + 12) (SL + 320) Q (F0 m 1378 ls1 [])) : W p l e room_1 s m #[Value.ref b] below meth c H locs CE SL Q (F0 m 812 ls []) := by
  have hx := X.1.1
  have hb := X.1.2.1
  replace hl : lv_has ls 8 [(4, .int (nI (4 * n))), (3, .ref (g.1 13 0)), (2, .ref (g.1 11 0)), (1, .ref (g.1 7 0)), (0, .ref b)] := hl
  refine lv_aload_n hx hb dL_law_812 rfl (lv_at hl 3 rfl) ?_
  refine lv_aload_n hx hb dL_law_813 rfl (lv_at hl 4 rfl) ?_
  refine lv_iload hx hb dL_law_814 (lv_at hl 0 rfl) ?_
  refine n_iconst hx hb 1 dL_law_816 (by decide) ?_
  refine n_iadd hx hb dL_law_817 ?_
  refine m_sc X Y hX hbl hbA hL (i := n) (k := 1) (by omega) dL_law_818 ?_
  refine lv_aload_n hx hb dL_law_819 rfl (lv_at hl 1 rfl) ?_
  refine m_SWi (As := [.ref (g.1 7 0), .int (sc xs n 1), .ref (g.1 13 0)]) (rest := []) X Y hA hcx (c_L_pass l hlt D kc A e0 M hG hwf.1 (fun t ht => ht) (sc xs n 1) hn5) (vx_cwSW 3 X.1.2.2.2.2 gL_law_L_pass rfl rfl rfl (by decide +kernel) ⟨Nat.le_of_ble_eq_true rfl, Nat.le_of_ble_eq_true rfl⟩) rfl rfl hl.1 (Nat.le_of_ble_eq_true rfl) dL_law_820 ⟨hCE, hSL⟩ (fun r M1 H locs hp Y => ?_)
  obtain ⟨hr1, g1, o1, hk1, hG1, ho1⟩ := hp
  subst hr1
  have e7 : g1.1 7 0 = g.1 7 0 := hk1 7 0 (by decide) (by decide) (by decide) (by decide)
  have e11 : g1.1 11 0 = g.1 11 0 := hk1 11 0 (by decide) (by decide) (by decide) (by decide)
  have e13 : g1.1 13 0 = g.1 13 0 := hk1 13 0 (by decide) (by decide) (by decide) (by decide)
  rw [← e7, ← e11, ← e13] at hl
  refine lv_istore (lv' := [(5, .int (nI ((sp_pass σ (sc xs n 1)).1))), (4, .int (nI (4 * n))), (3, .ref (g1.1 13 0)), (2, .ref (g1.1 11 0)), (1, .ref (g1.1 7 0)), (0, .ref b)]) hx hb dL_law_823 hl (by decide) rfl (fun ls hl => ?_)
  refine lv_aload_n hx hb dL_law_825 rfl (lv_at hl 3 rfl) ?_
  refine lv_aload_n hx hb dL_law_826 rfl (lv_at hl 5 rfl) ?_
  refine lv_iload hx hb dL_law_827 (lv_at hl 1 rfl) ?_
  refine n_iconst hx hb 1 dL_law_829 (by decide) ?_
  refine n_iadd hx hb dL_law_830 ?_
  refine m_sc X Y hX hbl hbA hL (i := n) (k := 1) (by omega) dL_law_831 ?_
  refine m_Vi (As := [.int (sc xs n 1)]) (rest := []) X Y hA hcx (c_X8_pass l D kc A e0 M1 hG1 hwf.1 (fun t ht => ht) (sc xs n 1)) (cwV 1 X.1.2.2.2.2 gL_law_X8_pass rfl rfl rfl (by decide +kernel) ⟨Nat.le_of_ble_eq_true rfl, Nat.le_of_ble_eq_true rfl⟩) (hG1.f11 (show 11 ≤ 13 by decide)) rfl rfl rfl hl.1 (Nat.le_of_ble_eq_true rfl) dL_law_832 ⟨hCE, hSL⟩ (fun r2 M2 H locs hp Y => ?_)
  obtain ⟨hr2, hG2⟩ := hp
  refine lv_istore (lv' := [(6, .int r2), (5, .int (nI ((sp_pass σ (sc xs n 1)).1))), (4, .int (nI (4 * n))), (3, .ref (g1.1 13 0)), (2, .ref (g1.1 11 0)), (1, .ref (g1.1 7 0)), (0, .ref b)]) hx hb dL_law_835 hl (by decide) rfl (fun ls hl => ?_)
  refine lv_aload_n hx hb dL_law_837 rfl (lv_at hl 4 rfl) ?_
  refine m_Vi (As := []) (rest := []) X Y hA hcx (c_X8_thrown l D kc A e0 M2 hG2 (fun t ht => ht)) (cwV 0 X.1.2.2.2.2 gL_law_X8_thrown rfl rfl rfl (by decide +kernel) ⟨Nat.le_of_ble_eq_true rfl, Nat.le_of_ble_eq_true rfl⟩) (hG2.f11 (show 11 ≤ 13 by decide)) rfl rfl rfl hl.1 (Nat.le_of_ble_eq_true rfl) dL_law_838 ⟨hCE, hSL⟩ (fun r3 M3 H locs hp Y => ?_)
  obtain ⟨hr3, eM⟩ := hp
  subst hr3
  rw [eM] at Y
  have hG3 := hG2
  refine lv_iload hx hb dL_law_841 (lv_at hl 1 rfl) ?_
  refine lv_icmp_eq (tgt := 848) hx hb dL_law_843 (by decide) (fun _ => ?_) (fun zq => absurd rfl zq)
  have hcl := sp_pass_x σ (sc xs n 1)
  have hcl2 : (sp_pass σ (sc xs n 1)).1 < 2147483648 := by have z := hcl.1; omega
  refine lv_iload hx hb dL_law_848 (lv_at hl 1 rfl) ?_
  refine n_if_ne hx hb 865 hcl2 dL_law_850 (by decide) (fun hc0 => ?_) (fun hc0 => ?_)
  · refine lv_goto (tgt := 1378) hx hb dL_law_865 (by decide) ?_
    exact kk ((sp_pass σ (sc xs n 1)).2.2) _ o1 g1 M2 H locs ls hG3 (WF_sp_pass hwf hn5 (sc xs n 1)) Y (lv_sub hl [2, 3, 4, 5, 6] rfl)
  · refine lv_aload_n hx hb dL_law_853 rfl (lv_at hl 3 rfl) ?_
    refine n_iconst hx hb 0 dL_law_854 (by decide) ?_
    refine m_lald X Y (hG3.f13 (show 13 ≤ 13 by decide)) (vp_in_nI (show 0 < 1 by decide) (by decide)) (v := o1) (by rw [nI_cl (show 0 < 2147483648 by decide)]; rfl) dL_law_855 ?_
    refine lv_iload hx hb dL_law_856 (lv_at hl 0 rfl) ?_
    refine lv_i2l hx hb dL_law_858 rfl ?_
    refine W.lcmp hx hb dL_law_859 ?_
    refine lv_if_eq (tgt := 865) hx hb dL_law_860 (by decide) (fun _ => ?_) (fun zq => absurd (by rw [lg_cmp_eq]; exact (ho1 hc0).trans (congrArg Int32.toInt64 hr2.symm)) zq)
    refine lv_goto (tgt := 1378) hx hb dL_law_865 (by decide) ?_
    exact kk ((sp_pass σ (sc xs n 1)).2.2) _ o1 g1 M2 H locs ls hG3 (WF_sp_pass hwf hn5 (sc xs n 1)) Y (lv_sub hl [2, 3, 4, 5, 6] rfl)
set_option maxHeartbeats 4000000 in
set_option maxRecDepth 100000 in
theorem law_paymentOf {p : Program} {l : Launch} (hlt : l.stackTraces = false) {e : Env} {s : State} {m : MethodId} {below : List Frame} {meth : Method} {c : Code} {H : Heap} {locs : List Loc} {CE SL : Nat} {Q : State → Prop} {D : va_G} {kc : Nat → ClassId} {A : Nat → Prop} {M : Mp} {ls : Array Slot} {e0 : Nat × Nat} {b L : Nat} {xs : Nat → Int32} {σ : Sg} {th : Int32} {o : Int64} {g : Gh} {n : Nat} (X : mX p s m #[Value.ref b] c cL_law 8 RL wsL_law D kc) (hA : ∀ q, s.heap.size ≤ q → A q) (hcx : cx A e0 s) (hX : va_X b L xs s s.heap) (hbl : b < s.heap.size) (hbA : ¬ A b) (hL : L ≤ 2048) (hnL : 4 * n + 4 ≤ L) (hn5 : n + 1 ≤ 600) (hCE : CE + 12 ≤ room_1.cells) (hSL : SL + 320 ≤ room_1.slots) (hG : G prL kc e0 σ σ th o g M) (hwf : WF n σ) (Y : mY D A M s H locs) (hl : lv_has ls 8 (lawL b n g)) (kk : ∀ (σ1 : Sg) (th1 : Int32) (o1 : Int64) (g1 : Gh) (M1 : Mp) (H1 : Heap) (locs1 : List Loc) (ls1 : Array Slot), G prL kc e0 σ1 σ1 th1 o1 g1 M1 → WF (n + 1) σ1 → mY D A M1 s H1 locs1 → lv_has ls1 8 (lawL b n g1) → W p l e room_1 s m #[Value.ref b] below meth c H1 locs1 (CE + 12) (SL + 320) Q (F0 m 1378 ls1 [])) : W p l e room_1 s m #[Value.ref b] below meth c H locs CE SL Q (F0 m 868 ls []) := by
  have hx := X.1.1
  have hb := X.1.2.1
  replace hl : lv_has ls 8 [(4, .int (nI (4 * n))), (3, .ref (g.1 13 0)), (2, .ref (g.1 11 0)), (1, .ref (g.1 7 0)), (0, .ref b)] := hl
  refine lv_aload_n hx hb dL_law_868 rfl (lv_at hl 3 rfl) ?_
  refine lv_aload_n hx hb dL_law_869 rfl (lv_at hl 4 rfl) ?_
  refine lv_iload hx hb dL_law_870 (lv_at hl 0 rfl) ?_
  refine n_iconst hx hb 1 dL_law_872 (by decide) ?_
  refine n_iadd hx hb dL_law_873 ?_
  refine m_sc X Y hX hbl hbA hL (i := n) (k := 1) (by omega) dL_law_874 ?_
  refine lv_aload_n hx hb dL_law_875 rfl (lv_at hl 4 rfl) ?_
  refine lv_iload hx hb dL_law_876 (lv_at hl 0 rfl) ?_
  refine n_iconst hx hb 2 dL_law_878 (by decide) ?_
  refine n_iadd hx hb dL_law_879 ?_
  refine m_sc X Y hX hbl hbA hL (i := n) (k := 2) (by omega) dL_law_880 ?_
  refine lv_aload_n hx hb dL_law_881 rfl (lv_at hl 1 rfl) ?_
  refine m_SWi (As := [.ref (g.1 7 0), .int (sc xs n 1), .int (sc xs n 2), .ref (g.1 13 0)]) (rest := []) X Y hA hcx (c_L_paymentOf l hlt D kc A e0 M hG hwf.1 (fun t ht => ht) (sc xs n 1) (sc xs n 2)) (vx_cwSW 4 X.1.2.2.2.2 gL_law_L_paymentOf rfl rfl rfl (by decide +kernel) ⟨Nat.le_of_ble_eq_true rfl, Nat.le_of_ble_eq_true rfl⟩) rfl rfl hl.1 (Nat.le_of_ble_eq_true rfl) dL_law_882 ⟨hCE, hSL⟩ (fun r M1 H locs hp Y => ?_)
  obtain ⟨hr1, g1, o1, hk1, hG1, ho1⟩ := hp
  subst hr1
  have e7 : g1.1 7 0 = g.1 7 0 := hk1 7 0 (by decide) (by decide) (by decide) (by decide)
  have e11 : g1.1 11 0 = g.1 11 0 := hk1 11 0 (by decide) (by decide) (by decide) (by decide)
  have e13 : g1.1 13 0 = g.1 13 0 := hk1 13 0 (by decide) (by decide) (by decide) (by decide)
  rw [← e7, ← e11, ← e13] at hl
  refine lv_istore (lv' := [(5, .int (nI ((sp_paymentOf σ (sc xs n 1) (sc xs n 2)).1))), (4, .int (nI (4 * n))), (3, .ref (g1.1 13 0)), (2, .ref (g1.1 11 0)), (1, .ref (g1.1 7 0)), (0, .ref b)]) hx hb dL_law_885 hl (by decide) rfl (fun ls hl => ?_)
  refine lv_aload_n hx hb dL_law_887 rfl (lv_at hl 3 rfl) ?_
  refine lv_aload_n hx hb dL_law_888 rfl (lv_at hl 5 rfl) ?_
  refine lv_iload hx hb dL_law_889 (lv_at hl 1 rfl) ?_
  refine n_iconst hx hb 1 dL_law_891 (by decide) ?_
  refine n_iadd hx hb dL_law_892 ?_
  refine m_sc X Y hX hbl hbA hL (i := n) (k := 1) (by omega) dL_law_893 ?_
  refine lv_aload_n hx hb dL_law_894 rfl (lv_at hl 5 rfl) ?_
  refine lv_iload hx hb dL_law_895 (lv_at hl 1 rfl) ?_
  refine n_iconst hx hb 2 dL_law_897 (by decide) ?_
  refine n_iadd hx hb dL_law_898 ?_
  refine m_sc X Y hX hbl hbA hL (i := n) (k := 2) (by omega) dL_law_899 ?_
  refine m_Vi (As := [.int (sc xs n 1), .int (sc xs n 2)]) (rest := []) X Y hA hcx (c_X8_paymentOf l D kc A e0 M1 hG1 hwf.1 (fun t ht => ht) (sc xs n 1) (sc xs n 2)) (cwV 2 X.1.2.2.2.2 gL_law_X8_paymentOf rfl rfl rfl (by decide +kernel) ⟨Nat.le_of_ble_eq_true rfl, Nat.le_of_ble_eq_true rfl⟩) (hG1.f11 (show 11 ≤ 13 by decide)) rfl rfl rfl hl.1 (Nat.le_of_ble_eq_true rfl) dL_law_900 ⟨hCE, hSL⟩ (fun r2 M2 H locs hp Y => ?_)
  obtain ⟨hr2, hG2⟩ := hp
  refine lv_istore (lv' := [(6, .int r2), (5, .int (nI ((sp_paymentOf σ (sc xs n 1) (sc xs n 2)).1))), (4, .int (nI (4 * n))), (3, .ref (g1.1 13 0)), (2, .ref (g1.1 11 0)), (1, .ref (g1.1 7 0)), (0, .ref b)]) hx hb dL_law_903 hl (by decide) rfl (fun ls hl => ?_)
  refine lv_aload_n hx hb dL_law_905 rfl (lv_at hl 4 rfl) ?_
  refine m_Vi (As := []) (rest := []) X Y hA hcx (c_X8_thrown l D kc A e0 M2 hG2 (fun t ht => ht)) (cwV 0 X.1.2.2.2.2 gL_law_X8_thrown rfl rfl rfl (by decide +kernel) ⟨Nat.le_of_ble_eq_true rfl, Nat.le_of_ble_eq_true rfl⟩) (hG2.f11 (show 11 ≤ 13 by decide)) rfl rfl rfl hl.1 (Nat.le_of_ble_eq_true rfl) dL_law_906 ⟨hCE, hSL⟩ (fun r3 M3 H locs hp Y => ?_)
  obtain ⟨hr3, eM⟩ := hp
  subst hr3
  rw [eM] at Y
  have hG3 := hG2
  refine lv_iload hx hb dL_law_909 (lv_at hl 1 rfl) ?_
  refine lv_icmp_eq (tgt := 916) hx hb dL_law_911 (by decide) (fun _ => ?_) (fun zq => absurd rfl zq)
  have hcl := sp_paymentOf_x σ (sc xs n 1) (sc xs n 2)
  have hcl2 : (sp_paymentOf σ (sc xs n 1) (sc xs n 2)).1 < 2147483648 := by have z := hcl.1; omega
  refine lv_iload hx hb dL_law_916 (lv_at hl 1 rfl) ?_
  refine n_if_ne hx hb 933 hcl2 dL_law_918 (by decide) (fun hc0 => ?_) (fun hc0 => ?_)
  · refine lv_goto (tgt := 1378) hx hb dL_law_933 (by decide) ?_
    exact kk ((sp_paymentOf σ (sc xs n 1) (sc xs n 2)).2.2) _ o1 g1 M2 H locs ls hG3 (by rw [sp_paymentOf_s]; exact hwf.mono (by omega) hn5) Y (lv_sub hl [2, 3, 4, 5, 6] rfl)
  · refine lv_aload_n hx hb dL_law_921 rfl (lv_at hl 3 rfl) ?_
    refine n_iconst hx hb 0 dL_law_922 (by decide) ?_
    refine m_lald X Y (hG3.f13 (show 13 ≤ 13 by decide)) (vp_in_nI (show 0 < 1 by decide) (by decide)) (v := o1) (by rw [nI_cl (show 0 < 2147483648 by decide)]; rfl) dL_law_923 ?_
    refine lv_iload hx hb dL_law_924 (lv_at hl 0 rfl) ?_
    refine lv_i2l hx hb dL_law_926 rfl ?_
    refine W.lcmp hx hb dL_law_927 ?_
    refine lv_if_eq (tgt := 933) hx hb dL_law_928 (by decide) (fun _ => ?_) (fun zq => absurd (by rw [lg_cmp_eq]; exact (ho1 hc0).trans (congrArg Int32.toInt64 hr2.symm)) zq)
    refine lv_goto (tgt := 1378) hx hb dL_law_933 (by decide) ?_
    exact kk ((sp_paymentOf σ (sc xs n 1) (sc xs n 2)).2.2) _ o1 g1 M2 H locs ls hG3 (by rw [sp_paymentOf_s]; exact hwf.mono (by omega) hn5) Y (lv_sub hl [2, 3, 4, 5, 6] rfl)
set_option maxHeartbeats 4000000 in
set_option maxRecDepth 100000 in
theorem law_captureOf {p : Program} {l : Launch} (hlt : l.stackTraces = false) {e : Env} {s : State} {m : MethodId} {below : List Frame} {meth : Method} {c : Code} {H : Heap} {locs : List Loc} {CE SL : Nat} {Q : State → Prop} {D : va_G} {kc : Nat → ClassId} {A : Nat → Prop} {M : Mp} {ls : Array Slot} {e0 : Nat × Nat} {b L : Nat} {xs : Nat → Int32} {σ : Sg} {th : Int32} {o : Int64} {g : Gh} {n : Nat} (X : mX p s m #[Value.ref b] c cL_law 8 RL wsL_law D kc) (hA : ∀ q, s.heap.size ≤ q → A q) (hcx : cx A e0 s) (hX : va_X b L xs s s.heap) (hbl : b < s.heap.size) (hbA : ¬ A b) (hL : L ≤ 2048) (hnL : 4 * n + 4 ≤ L) (hn5 : n + 1 ≤ 600) (hCE : CE + 12 ≤ room_1.cells) (hSL : SL + 320 ≤ room_1.slots) (hG : G prL kc e0 σ σ th o g M) (hwf : WF n σ) (Y : mY D A M s H locs) (hl : lv_has ls 8 (lawL b n g)) (kk : ∀ (σ1 : Sg) (th1 : Int32) (o1 : Int64) (g1 : Gh) (M1 : Mp) (H1 : Heap) (locs1 : List Loc) (ls1 : Array Slot), G prL kc e0 σ1 σ1 th1 o1 g1 M1 → WF (n + 1) σ1 → mY D A M1 s H1 locs1 → lv_has ls1 8 (lawL b n g1) → W p l e room_1 s m #[Value.ref b] below meth c H1 locs1 (CE + 12) (SL + 320) Q (F0 m 1378 ls1 [])) : W p l e room_1 s m #[Value.ref b] below meth c H locs CE SL Q (F0 m 936 ls []) := by
  have hx := X.1.1
  have hb := X.1.2.1
  replace hl : lv_has ls 8 [(4, .int (nI (4 * n))), (3, .ref (g.1 13 0)), (2, .ref (g.1 11 0)), (1, .ref (g.1 7 0)), (0, .ref b)] := hl
  refine lv_aload_n hx hb dL_law_936 rfl (lv_at hl 3 rfl) ?_
  refine lv_aload_n hx hb dL_law_937 rfl (lv_at hl 4 rfl) ?_
  refine lv_iload hx hb dL_law_938 (lv_at hl 0 rfl) ?_
  refine n_iconst hx hb 1 dL_law_940 (by decide) ?_
  refine n_iadd hx hb dL_law_941 ?_
  refine m_sc X Y hX hbl hbA hL (i := n) (k := 1) (by omega) dL_law_942 ?_
  refine lv_aload_n hx hb dL_law_943 rfl (lv_at hl 4 rfl) ?_
  refine lv_iload hx hb dL_law_944 (lv_at hl 0 rfl) ?_
  refine n_iconst hx hb 2 dL_law_946 (by decide) ?_
  refine n_iadd hx hb dL_law_947 ?_
  refine m_sc X Y hX hbl hbA hL (i := n) (k := 2) (by omega) dL_law_948 ?_
  refine lv_aload_n hx hb dL_law_949 rfl (lv_at hl 1 rfl) ?_
  refine m_SWi (As := [.ref (g.1 7 0), .int (sc xs n 1), .int (sc xs n 2), .ref (g.1 13 0)]) (rest := []) X Y hA hcx (c_L_captureOf l hlt D kc A e0 M hG hwf.1 (fun t ht => ht) (sc xs n 1) (sc xs n 2)) (vx_cwSW 4 X.1.2.2.2.2 gL_law_L_captureOf rfl rfl rfl (by decide +kernel) ⟨Nat.le_of_ble_eq_true rfl, Nat.le_of_ble_eq_true rfl⟩) rfl rfl hl.1 (Nat.le_of_ble_eq_true rfl) dL_law_950 ⟨hCE, hSL⟩ (fun r M1 H locs hp Y => ?_)
  obtain ⟨hr1, g1, o1, hk1, hG1, ho1⟩ := hp
  subst hr1
  have e7 : g1.1 7 0 = g.1 7 0 := hk1 7 0 (by decide) (by decide) (by decide) (by decide)
  have e11 : g1.1 11 0 = g.1 11 0 := hk1 11 0 (by decide) (by decide) (by decide) (by decide)
  have e13 : g1.1 13 0 = g.1 13 0 := hk1 13 0 (by decide) (by decide) (by decide) (by decide)
  rw [← e7, ← e11, ← e13] at hl
  refine lv_istore (lv' := [(5, .int (nI ((sp_captureOf σ (sc xs n 1) (sc xs n 2)).1))), (4, .int (nI (4 * n))), (3, .ref (g1.1 13 0)), (2, .ref (g1.1 11 0)), (1, .ref (g1.1 7 0)), (0, .ref b)]) hx hb dL_law_953 hl (by decide) rfl (fun ls hl => ?_)
  refine lv_aload_n hx hb dL_law_955 rfl (lv_at hl 3 rfl) ?_
  refine lv_aload_n hx hb dL_law_956 rfl (lv_at hl 5 rfl) ?_
  refine lv_iload hx hb dL_law_957 (lv_at hl 1 rfl) ?_
  refine n_iconst hx hb 1 dL_law_959 (by decide) ?_
  refine n_iadd hx hb dL_law_960 ?_
  refine m_sc X Y hX hbl hbA hL (i := n) (k := 1) (by omega) dL_law_961 ?_
  refine lv_aload_n hx hb dL_law_962 rfl (lv_at hl 5 rfl) ?_
  refine lv_iload hx hb dL_law_963 (lv_at hl 1 rfl) ?_
  refine n_iconst hx hb 2 dL_law_965 (by decide) ?_
  refine n_iadd hx hb dL_law_966 ?_
  refine m_sc X Y hX hbl hbA hL (i := n) (k := 2) (by omega) dL_law_967 ?_
  refine m_Vi (As := [.int (sc xs n 1), .int (sc xs n 2)]) (rest := []) X Y hA hcx (c_X8_captureOf l D kc A e0 M1 hG1 hwf.1 (fun t ht => ht) (sc xs n 1) (sc xs n 2)) (cwV 2 X.1.2.2.2.2 gL_law_X8_captureOf rfl rfl rfl (by decide +kernel) ⟨Nat.le_of_ble_eq_true rfl, Nat.le_of_ble_eq_true rfl⟩) (hG1.f11 (show 11 ≤ 13 by decide)) rfl rfl rfl hl.1 (Nat.le_of_ble_eq_true rfl) dL_law_968 ⟨hCE, hSL⟩ (fun r2 M2 H locs hp Y => ?_)
  obtain ⟨hr2, hG2⟩ := hp
  refine lv_istore (lv' := [(6, .int r2), (5, .int (nI ((sp_captureOf σ (sc xs n 1) (sc xs n 2)).1))), (4, .int (nI (4 * n))), (3, .ref (g1.1 13 0)), (2, .ref (g1.1 11 0)), (1, .ref (g1.1 7 0)), (0, .ref b)]) hx hb dL_law_971 hl (by decide) rfl (fun ls hl => ?_)
  refine lv_aload_n hx hb dL_law_973 rfl (lv_at hl 4 rfl) ?_
  refine m_Vi (As := []) (rest := []) X Y hA hcx (c_X8_thrown l D kc A e0 M2 hG2 (fun t ht => ht)) (cwV 0 X.1.2.2.2.2 gL_law_X8_thrown rfl rfl rfl (by decide +kernel) ⟨Nat.le_of_ble_eq_true rfl, Nat.le_of_ble_eq_true rfl⟩) (hG2.f11 (show 11 ≤ 13 by decide)) rfl rfl rfl hl.1 (Nat.le_of_ble_eq_true rfl) dL_law_974 ⟨hCE, hSL⟩ (fun r3 M3 H locs hp Y => ?_)
  obtain ⟨hr3, eM⟩ := hp
  subst hr3
  rw [eM] at Y
  have hG3 := hG2
  refine lv_iload hx hb dL_law_977 (lv_at hl 1 rfl) ?_
  refine lv_icmp_eq (tgt := 984) hx hb dL_law_979 (by decide) (fun _ => ?_) (fun zq => absurd rfl zq)
  have hcl := sp_captureOf_x σ (sc xs n 1) (sc xs n 2)
  have hcl2 : (sp_captureOf σ (sc xs n 1) (sc xs n 2)).1 < 2147483648 := by have z := hcl.1; omega
  refine lv_iload hx hb dL_law_984 (lv_at hl 1 rfl) ?_
  refine n_if_ne hx hb 1001 hcl2 dL_law_986 (by decide) (fun hc0 => ?_) (fun hc0 => ?_)
  · refine lv_goto (tgt := 1378) hx hb dL_law_1001 (by decide) ?_
    exact kk ((sp_captureOf σ (sc xs n 1) (sc xs n 2)).2.2) _ o1 g1 M2 H locs ls hG3 (by rw [sp_captureOf_s]; exact hwf.mono (by omega) hn5) Y (lv_sub hl [2, 3, 4, 5, 6] rfl)
  · refine lv_aload_n hx hb dL_law_989 rfl (lv_at hl 3 rfl) ?_
    refine n_iconst hx hb 0 dL_law_990 (by decide) ?_
    refine m_lald X Y (hG3.f13 (show 13 ≤ 13 by decide)) (vp_in_nI (show 0 < 1 by decide) (by decide)) (v := o1) (by rw [nI_cl (show 0 < 2147483648 by decide)]; rfl) dL_law_991 ?_
    refine lv_iload hx hb dL_law_992 (lv_at hl 0 rfl) ?_
    refine lv_i2l hx hb dL_law_994 rfl ?_
    refine W.lcmp hx hb dL_law_995 ?_
    refine lv_if_eq (tgt := 1001) hx hb dL_law_996 (by decide) (fun _ => ?_) (fun zq => absurd (by rw [lg_cmp_eq]; exact (ho1 hc0).trans (congrArg Int32.toInt64 hr2.symm)) zq)
    refine lv_goto (tgt := 1378) hx hb dL_law_1001 (by decide) ?_
    exact kk ((sp_captureOf σ (sc xs n 1) (sc xs n 2)).2.2) _ o1 g1 M2 H locs ls hG3 (by rw [sp_captureOf_s]; exact hwf.mono (by omega) hn5) Y (lv_sub hl [2, 3, 4, 5, 6] rfl)
set_option maxHeartbeats 4000000 in
set_option maxRecDepth 100000 in
theorem law_chargebackOf {p : Program} {l : Launch} (hlt : l.stackTraces = false) {e : Env} {s : State} {m : MethodId} {below : List Frame} {meth : Method} {c : Code} {H : Heap} {locs : List Loc} {CE SL : Nat} {Q : State → Prop} {D : va_G} {kc : Nat → ClassId} {A : Nat → Prop} {M : Mp} {ls : Array Slot} {e0 : Nat × Nat} {b L : Nat} {xs : Nat → Int32} {σ : Sg} {th : Int32} {o : Int64} {g : Gh} {n : Nat} (X : mX p s m #[Value.ref b] c cL_law 8 RL wsL_law D kc) (hA : ∀ q, s.heap.size ≤ q → A q) (hcx : cx A e0 s) (hX : va_X b L xs s s.heap) (hbl : b < s.heap.size) (hbA : ¬ A b) (hL : L ≤ 2048) (hnL : 4 * n + 4 ≤ L) (hn5 : n + 1 ≤ 600) (hCE : CE + 12 ≤ room_1.cells) (hSL : SL + 320 ≤ room_1.slots) (hG : G prL kc e0 σ σ th o g M) (hwf : WF n σ) (Y : mY D A M s H locs) (hl : lv_has ls 8 (lawL b n g)) (kk : ∀ (σ1 : Sg) (th1 : Int32) (o1 : Int64) (g1 : Gh) (M1 : Mp) (H1 : Heap) (locs1 : List Loc) (ls1 : Array Slot), G prL kc e0 σ1 σ1 th1 o1 g1 M1 → WF (n + 1) σ1 → mY D A M1 s H1 locs1 → lv_has ls1 8 (lawL b n g1) → W p l e room_1 s m #[Value.ref b] below meth c H1 locs1 (CE + 12) (SL + 320) Q (F0 m 1378 ls1 [])) : W p l e room_1 s m #[Value.ref b] below meth c H locs CE SL Q (F0 m 1004 ls []) := by
  have hx := X.1.1
  have hb := X.1.2.1
  replace hl : lv_has ls 8 [(4, .int (nI (4 * n))), (3, .ref (g.1 13 0)), (2, .ref (g.1 11 0)), (1, .ref (g.1 7 0)), (0, .ref b)] := hl
  refine lv_aload_n hx hb dL_law_1004 rfl (lv_at hl 3 rfl) ?_
  refine lv_aload_n hx hb dL_law_1005 rfl (lv_at hl 4 rfl) ?_
  refine lv_iload hx hb dL_law_1006 (lv_at hl 0 rfl) ?_
  refine n_iconst hx hb 1 dL_law_1008 (by decide) ?_
  refine n_iadd hx hb dL_law_1009 ?_
  refine m_sc X Y hX hbl hbA hL (i := n) (k := 1) (by omega) dL_law_1010 ?_
  refine lv_aload_n hx hb dL_law_1011 rfl (lv_at hl 4 rfl) ?_
  refine lv_iload hx hb dL_law_1012 (lv_at hl 0 rfl) ?_
  refine n_iconst hx hb 2 dL_law_1014 (by decide) ?_
  refine n_iadd hx hb dL_law_1015 ?_
  refine m_sc X Y hX hbl hbA hL (i := n) (k := 2) (by omega) dL_law_1016 ?_
  refine lv_aload_n hx hb dL_law_1017 rfl (lv_at hl 1 rfl) ?_
  refine m_SWi (As := [.ref (g.1 7 0), .int (sc xs n 1), .int (sc xs n 2), .ref (g.1 13 0)]) (rest := []) X Y hA hcx (c_L_chargebackOf l hlt D kc A e0 M hG hwf.1 (fun t ht => ht) (sc xs n 1) (sc xs n 2)) (vx_cwSW 4 X.1.2.2.2.2 gL_law_L_chargebackOf rfl rfl rfl (by decide +kernel) ⟨Nat.le_of_ble_eq_true rfl, Nat.le_of_ble_eq_true rfl⟩) rfl rfl hl.1 (Nat.le_of_ble_eq_true rfl) dL_law_1018 ⟨hCE, hSL⟩ (fun r M1 H locs hp Y => ?_)
  obtain ⟨hr1, g1, o1, hk1, hG1, ho1⟩ := hp
  subst hr1
  have e7 : g1.1 7 0 = g.1 7 0 := hk1 7 0 (by decide) (by decide) (by decide) (by decide)
  have e11 : g1.1 11 0 = g.1 11 0 := hk1 11 0 (by decide) (by decide) (by decide) (by decide)
  have e13 : g1.1 13 0 = g.1 13 0 := hk1 13 0 (by decide) (by decide) (by decide) (by decide)
  rw [← e7, ← e11, ← e13] at hl
  refine lv_istore (lv' := [(5, .int (nI ((sp_chargebackOf σ (sc xs n 1) (sc xs n 2)).1))), (4, .int (nI (4 * n))), (3, .ref (g1.1 13 0)), (2, .ref (g1.1 11 0)), (1, .ref (g1.1 7 0)), (0, .ref b)]) hx hb dL_law_1021 hl (by decide) rfl (fun ls hl => ?_)
  refine lv_aload_n hx hb dL_law_1023 rfl (lv_at hl 3 rfl) ?_
  refine lv_aload_n hx hb dL_law_1024 rfl (lv_at hl 5 rfl) ?_
  refine lv_iload hx hb dL_law_1025 (lv_at hl 1 rfl) ?_
  refine n_iconst hx hb 1 dL_law_1027 (by decide) ?_
  refine n_iadd hx hb dL_law_1028 ?_
  refine m_sc X Y hX hbl hbA hL (i := n) (k := 1) (by omega) dL_law_1029 ?_
  refine lv_aload_n hx hb dL_law_1030 rfl (lv_at hl 5 rfl) ?_
  refine lv_iload hx hb dL_law_1031 (lv_at hl 1 rfl) ?_
  refine n_iconst hx hb 2 dL_law_1033 (by decide) ?_
  refine n_iadd hx hb dL_law_1034 ?_
  refine m_sc X Y hX hbl hbA hL (i := n) (k := 2) (by omega) dL_law_1035 ?_
  refine m_Vi (As := [.int (sc xs n 1), .int (sc xs n 2)]) (rest := []) X Y hA hcx (c_X8_chargebackOf l D kc A e0 M1 hG1 hwf.1 (fun t ht => ht) (sc xs n 1) (sc xs n 2)) (cwV 2 X.1.2.2.2.2 gL_law_X8_chargebackOf rfl rfl rfl (by decide +kernel) ⟨Nat.le_of_ble_eq_true rfl, Nat.le_of_ble_eq_true rfl⟩) (hG1.f11 (show 11 ≤ 13 by decide)) rfl rfl rfl hl.1 (Nat.le_of_ble_eq_true rfl) dL_law_1036 ⟨hCE, hSL⟩ (fun r2 M2 H locs hp Y => ?_)
  obtain ⟨hr2, hG2⟩ := hp
  refine lv_istore (lv' := [(6, .int r2), (5, .int (nI ((sp_chargebackOf σ (sc xs n 1) (sc xs n 2)).1))), (4, .int (nI (4 * n))), (3, .ref (g1.1 13 0)), (2, .ref (g1.1 11 0)), (1, .ref (g1.1 7 0)), (0, .ref b)]) hx hb dL_law_1039 hl (by decide) rfl (fun ls hl => ?_)
  refine lv_aload_n hx hb dL_law_1041 rfl (lv_at hl 4 rfl) ?_
  refine m_Vi (As := []) (rest := []) X Y hA hcx (c_X8_thrown l D kc A e0 M2 hG2 (fun t ht => ht)) (cwV 0 X.1.2.2.2.2 gL_law_X8_thrown rfl rfl rfl (by decide +kernel) ⟨Nat.le_of_ble_eq_true rfl, Nat.le_of_ble_eq_true rfl⟩) (hG2.f11 (show 11 ≤ 13 by decide)) rfl rfl rfl hl.1 (Nat.le_of_ble_eq_true rfl) dL_law_1042 ⟨hCE, hSL⟩ (fun r3 M3 H locs hp Y => ?_)
  obtain ⟨hr3, eM⟩ := hp
  subst hr3
  rw [eM] at Y
  have hG3 := hG2
  refine lv_iload hx hb dL_law_1045 (lv_at hl 1 rfl) ?_
  refine lv_icmp_eq (tgt := 1052) hx hb dL_law_1047 (by decide) (fun _ => ?_) (fun zq => absurd rfl zq)
  have hcl := sp_chargebackOf_x σ (sc xs n 1) (sc xs n 2)
  have hcl2 : (sp_chargebackOf σ (sc xs n 1) (sc xs n 2)).1 < 2147483648 := by have z := hcl.1; omega
  refine lv_iload hx hb dL_law_1052 (lv_at hl 1 rfl) ?_
  refine n_if_ne hx hb 1069 hcl2 dL_law_1054 (by decide) (fun hc0 => ?_) (fun hc0 => ?_)
  · refine lv_goto (tgt := 1378) hx hb dL_law_1069 (by decide) ?_
    exact kk ((sp_chargebackOf σ (sc xs n 1) (sc xs n 2)).2.2) _ o1 g1 M2 H locs ls hG3 (by rw [sp_chargebackOf_s]; exact hwf.mono (by omega) hn5) Y (lv_sub hl [2, 3, 4, 5, 6] rfl)
  · refine lv_aload_n hx hb dL_law_1057 rfl (lv_at hl 3 rfl) ?_
    refine n_iconst hx hb 0 dL_law_1058 (by decide) ?_
    refine m_lald X Y (hG3.f13 (show 13 ≤ 13 by decide)) (vp_in_nI (show 0 < 1 by decide) (by decide)) (v := o1) (by rw [nI_cl (show 0 < 2147483648 by decide)]; rfl) dL_law_1059 ?_
    refine lv_iload hx hb dL_law_1060 (lv_at hl 0 rfl) ?_
    refine lv_i2l hx hb dL_law_1062 rfl ?_
    refine W.lcmp hx hb dL_law_1063 ?_
    refine lv_if_eq (tgt := 1069) hx hb dL_law_1064 (by decide) (fun _ => ?_) (fun zq => absurd (by rw [lg_cmp_eq]; exact (ho1 hc0).trans (congrArg Int32.toInt64 hr2.symm)) zq)
    refine lv_goto (tgt := 1378) hx hb dL_law_1069 (by decide) ?_
    exact kk ((sp_chargebackOf σ (sc xs n 1) (sc xs n 2)).2.2) _ o1 g1 M2 H locs ls hG3 (by rw [sp_chargebackOf_s]; exact hwf.mono (by omega) hn5) Y (lv_sub hl [2, 3, 4, 5, 6] rfl)
set_option maxHeartbeats 4000000 in
set_option maxRecDepth 100000 in
theorem law_limit {p : Program} {l : Launch} (hlt : l.stackTraces = false) {e : Env} {s : State} {m : MethodId} {below : List Frame} {meth : Method} {c : Code} {H : Heap} {locs : List Loc} {CE SL : Nat} {Q : State → Prop} {D : va_G} {kc : Nat → ClassId} {A : Nat → Prop} {M : Mp} {ls : Array Slot} {e0 : Nat × Nat} {b L : Nat} {xs : Nat → Int32} {σ : Sg} {th : Int32} {o : Int64} {g : Gh} {n : Nat} (X : mX p s m #[Value.ref b] c cL_law 8 RL wsL_law D kc) (hA : ∀ q, s.heap.size ≤ q → A q) (hcx : cx A e0 s) (hX : va_X b L xs s s.heap) (hbl : b < s.heap.size) (hbA : ¬ A b) (hL : L ≤ 2048) (hnL : 4 * n + 4 ≤ L) (hn5 : n + 1 ≤ 600) (hCE : CE + 12 ≤ room_1.cells) (hSL : SL + 320 ≤ room_1.slots) (hG : G prL kc e0 σ σ th o g M) (hwf : WF n σ) (Y : mY D A M s H locs) (hl : lv_has ls 8 (lawL b n g)) (kk : ∀ (σ1 : Sg) (th1 : Int32) (o1 : Int64) (g1 : Gh) (M1 : Mp) (H1 : Heap) (locs1 : List Loc) (ls1 : Array Slot), G prL kc e0 σ1 σ1 th1 o1 g1 M1 → WF (n + 1) σ1 → mY D A M1 s H1 locs1 → lv_has ls1 8 (lawL b n g1) → W p l e room_1 s m #[Value.ref b] below meth c H1 locs1 (CE + 12) (SL + 320) Q (F0 m 1378 ls1 [])) : W p l e room_1 s m #[Value.ref b] below meth c H locs CE SL Q (F0 m 1072 ls []) := by
  have hx := X.1.1
  have hb := X.1.2.1
  replace hl : lv_has ls 8 [(4, .int (nI (4 * n))), (3, .ref (g.1 13 0)), (2, .ref (g.1 11 0)), (1, .ref (g.1 7 0)), (0, .ref b)] := hl
  refine lv_aload_n hx hb dL_law_1072 rfl (lv_at hl 3 rfl) ?_
  refine lv_aload_n hx hb dL_law_1073 rfl (lv_at hl 4 rfl) ?_
  refine lv_iload hx hb dL_law_1074 (lv_at hl 0 rfl) ?_
  refine n_iconst hx hb 1 dL_law_1076 (by decide) ?_
  refine n_iadd hx hb dL_law_1077 ?_
  refine m_sc X Y hX hbl hbA hL (i := n) (k := 1) (by omega) dL_law_1078 ?_
  refine lv_aload_n hx hb dL_law_1079 rfl (lv_at hl 1 rfl) ?_
  refine m_SWi (As := [.ref (g.1 7 0), .int (sc xs n 1), .ref (g.1 13 0)]) (rest := []) X Y hA hcx (c_L_limit l hlt D kc A e0 M hG hwf.1 (fun t ht => ht) (sc xs n 1)) (vx_cwSW 3 X.1.2.2.2.2 gL_law_L_limit rfl rfl rfl (by decide +kernel) ⟨Nat.le_of_ble_eq_true rfl, Nat.le_of_ble_eq_true rfl⟩) rfl rfl hl.1 (Nat.le_of_ble_eq_true rfl) dL_law_1080 ⟨hCE, hSL⟩ (fun r M1 H locs hp Y => ?_)
  obtain ⟨hr1, g1, o1, hk1, hG1, ho1⟩ := hp
  subst hr1
  have e7 : g1.1 7 0 = g.1 7 0 := hk1 7 0 (by decide) (by decide) (by decide) (by decide)
  have e11 : g1.1 11 0 = g.1 11 0 := hk1 11 0 (by decide) (by decide) (by decide) (by decide)
  have e13 : g1.1 13 0 = g.1 13 0 := hk1 13 0 (by decide) (by decide) (by decide) (by decide)
  rw [← e7, ← e11, ← e13] at hl
  refine lv_istore (lv' := [(5, .int (nI ((sp_limit σ (sc xs n 1)).1))), (4, .int (nI (4 * n))), (3, .ref (g1.1 13 0)), (2, .ref (g1.1 11 0)), (1, .ref (g1.1 7 0)), (0, .ref b)]) hx hb dL_law_1083 hl (by decide) rfl (fun ls hl => ?_)
  refine lv_aload_n hx hb dL_law_1085 rfl (lv_at hl 3 rfl) ?_
  refine lv_aload_n hx hb dL_law_1086 rfl (lv_at hl 5 rfl) ?_
  refine lv_iload hx hb dL_law_1087 (lv_at hl 1 rfl) ?_
  refine n_iconst hx hb 1 dL_law_1089 (by decide) ?_
  refine n_iadd hx hb dL_law_1090 ?_
  refine m_sc X Y hX hbl hbA hL (i := n) (k := 1) (by omega) dL_law_1091 ?_
  refine m_Vi (As := [.int (sc xs n 1)]) (rest := []) X Y hA hcx (c_X8_limit l D kc A e0 M1 hG1 hwf.1 (fun t ht => ht) (sc xs n 1)) (cwV 1 X.1.2.2.2.2 gL_law_X8_limit rfl rfl rfl (by decide +kernel) ⟨Nat.le_of_ble_eq_true rfl, Nat.le_of_ble_eq_true rfl⟩) (hG1.f11 (show 11 ≤ 13 by decide)) rfl rfl rfl hl.1 (Nat.le_of_ble_eq_true rfl) dL_law_1092 ⟨hCE, hSL⟩ (fun r2 M2 H locs hp Y => ?_)
  obtain ⟨hr2, hG2⟩ := hp
  refine lv_istore (lv' := [(6, .int r2), (5, .int (nI ((sp_limit σ (sc xs n 1)).1))), (4, .int (nI (4 * n))), (3, .ref (g1.1 13 0)), (2, .ref (g1.1 11 0)), (1, .ref (g1.1 7 0)), (0, .ref b)]) hx hb dL_law_1095 hl (by decide) rfl (fun ls hl => ?_)
  refine lv_aload_n hx hb dL_law_1097 rfl (lv_at hl 4 rfl) ?_
  refine m_Vi (As := []) (rest := []) X Y hA hcx (c_X8_thrown l D kc A e0 M2 hG2 (fun t ht => ht)) (cwV 0 X.1.2.2.2.2 gL_law_X8_thrown rfl rfl rfl (by decide +kernel) ⟨Nat.le_of_ble_eq_true rfl, Nat.le_of_ble_eq_true rfl⟩) (hG2.f11 (show 11 ≤ 13 by decide)) rfl rfl rfl hl.1 (Nat.le_of_ble_eq_true rfl) dL_law_1098 ⟨hCE, hSL⟩ (fun r3 M3 H locs hp Y => ?_)
  obtain ⟨hr3, eM⟩ := hp
  subst hr3
  rw [eM] at Y
  have hG3 := hG2
  refine lv_iload hx hb dL_law_1101 (lv_at hl 1 rfl) ?_
  refine lv_icmp_eq (tgt := 1108) hx hb dL_law_1103 (by decide) (fun _ => ?_) (fun zq => absurd rfl zq)
  have hcl := sp_limit_x σ (sc xs n 1)
  have hcl2 : (sp_limit σ (sc xs n 1)).1 < 2147483648 := by have z := hcl.1; omega
  refine lv_iload hx hb dL_law_1108 (lv_at hl 1 rfl) ?_
  refine n_if_ne hx hb 1125 hcl2 dL_law_1110 (by decide) (fun hc0 => ?_) (fun hc0 => ?_)
  · refine lv_goto (tgt := 1378) hx hb dL_law_1125 (by decide) ?_
    exact kk ((sp_limit σ (sc xs n 1)).2.2) _ o1 g1 M2 H locs ls hG3 (by rw [sp_limit_s]; exact hwf.mono (by omega) hn5) Y (lv_sub hl [2, 3, 4, 5, 6] rfl)
  · refine lv_aload_n hx hb dL_law_1113 rfl (lv_at hl 3 rfl) ?_
    refine n_iconst hx hb 0 dL_law_1114 (by decide) ?_
    refine m_lald X Y (hG3.f13 (show 13 ≤ 13 by decide)) (vp_in_nI (show 0 < 1 by decide) (by decide)) (v := o1) (by rw [nI_cl (show 0 < 2147483648 by decide)]; rfl) dL_law_1115 ?_
    refine lv_iload hx hb dL_law_1116 (lv_at hl 0 rfl) ?_
    refine lv_i2l hx hb dL_law_1118 rfl ?_
    refine W.lcmp hx hb dL_law_1119 ?_
    refine lv_if_eq (tgt := 1125) hx hb dL_law_1120 (by decide) (fun _ => ?_) (fun zq => absurd (by rw [lg_cmp_eq]; exact (ho1 hc0).trans (congrArg Int32.toInt64 hr2.symm)) zq)
    refine lv_goto (tgt := 1378) hx hb dL_law_1125 (by decide) ?_
    exact kk ((sp_limit σ (sc xs n 1)).2.2) _ o1 g1 M2 H locs ls hG3 (by rw [sp_limit_s]; exact hwf.mono (by omega) hn5) Y (lv_sub hl [2, 3, 4, 5, 6] rfl)
set_option maxHeartbeats 4000000 in
set_option maxRecDepth 100000 in
theorem law_net {p : Program} {l : Launch} (hlt : l.stackTraces = false) {e : Env} {s : State} {m : MethodId} {below : List Frame} {meth : Method} {c : Code} {H : Heap} {locs : List Loc} {CE SL : Nat} {Q : State → Prop} {D : va_G} {kc : Nat → ClassId} {A : Nat → Prop} {M : Mp} {ls : Array Slot} {e0 : Nat × Nat} {b L : Nat} {xs : Nat → Int32} {σ : Sg} {th : Int32} {o : Int64} {g : Gh} {n : Nat} (X : mX p s m #[Value.ref b] c cL_law 8 RL wsL_law D kc) (hA : ∀ q, s.heap.size ≤ q → A q) (hcx : cx A e0 s) (hX : va_X b L xs s s.heap) (hbl : b < s.heap.size) (hbA : ¬ A b) (hL : L ≤ 2048) (hnL : 4 * n + 4 ≤ L) (hn5 : n + 1 ≤ 600) (hCE : CE + 12 ≤ room_1.cells) (hSL : SL + 320 ≤ room_1.slots) (hG : G prL kc e0 σ σ th o g M) (hwf : WF n σ) (Y : mY D A M s H locs) (hl : lv_has ls 8 (lawL b n g)) (kk : ∀ (σ1 : Sg) (th1 : Int32) (o1 : Int64) (g1 : Gh) (M1 : Mp) (H1 : Heap) (locs1 : List Loc) (ls1 : Array Slot), G prL kc e0 σ1 σ1 th1 o1 g1 M1 → WF (n + 1) σ1 → mY D A M1 s H1 locs1 → lv_has ls1 8 (lawL b n g1) → W p l e room_1 s m #[Value.ref b] below meth c H1 locs1 (CE + 12) (SL + 320) Q (F0 m 1378 ls1 [])) : W p l e room_1 s m #[Value.ref b] below meth c H locs CE SL Q (F0 m 1128 ls []) := by
  have hx := X.1.1
  have hb := X.1.2.1
  replace hl : lv_has ls 8 [(4, .int (nI (4 * n))), (3, .ref (g.1 13 0)), (2, .ref (g.1 11 0)), (1, .ref (g.1 7 0)), (0, .ref b)] := hl
  by_cases hbz : sc xs n 2 = 0
  · refine lv_aload_n hx hb dL_law_1128 rfl (lv_at hl 3 rfl) ?_
    refine lv_aload_n hx hb dL_law_1129 rfl (lv_at hl 4 rfl) ?_
    refine lv_iload hx hb dL_law_1130 (lv_at hl 0 rfl) ?_
    refine n_iconst hx hb 1 dL_law_1132 (by decide) ?_
    refine n_iadd hx hb dL_law_1133 ?_
    refine m_sc X Y hX hbl hbA hL (i := n) (k := 1) (by omega) dL_law_1134 ?_
    refine lv_aload_n hx hb dL_law_1135 rfl (lv_at hl 4 rfl) ?_
    refine lv_iload hx hb dL_law_1136 (lv_at hl 0 rfl) ?_
    refine n_iconst hx hb 2 dL_law_1138 (by decide) ?_
    refine n_iadd hx hb dL_law_1139 ?_
    refine m_sc X Y hX hbl hbA hL (i := n) (k := 2) (by omega) dL_law_1140 ?_
    refine lv_if_eq (tgt := 1148) hx hb dL_law_1141 (by decide) (fun _ => ?_) (fun zq => absurd hbz zq)
    refine n_iconst hx hb 0 dL_law_1148 (by decide) ?_
    refine lv_aload_n hx hb dL_law_1149 rfl (lv_at hl 1 rfl) ?_
    refine m_SWi (As := [.ref (g.1 7 0), .int (sc xs n 1), .int (nI 0), .ref (g.1 13 0)]) (rest := []) X Y hA hcx (c_L_net l hlt D kc A e0 M hG hwf.1 (fun t ht => ht) (sc xs n 1) false) (vx_cwSW 4 X.1.2.2.2.2 gL_law_L_net rfl rfl rfl (by decide +kernel) ⟨Nat.le_of_ble_eq_true rfl, Nat.le_of_ble_eq_true rfl⟩) rfl rfl hl.1 (Nat.le_of_ble_eq_true rfl) dL_law_1150 ⟨hCE, hSL⟩ (fun r M1 H locs hp Y => ?_)
    obtain ⟨hr1, g1, o1, hk1, hG1, ho1⟩ := hp
    subst hr1
    have e7 : g1.1 7 0 = g.1 7 0 := hk1 7 0 (by decide) (by decide) (by decide) (by decide)
    have e11 : g1.1 11 0 = g.1 11 0 := hk1 11 0 (by decide) (by decide) (by decide) (by decide)
    have e13 : g1.1 13 0 = g.1 13 0 := hk1 13 0 (by decide) (by decide) (by decide) (by decide)
    rw [← e7, ← e11, ← e13] at hl
    refine lv_istore (lv' := [(5, .int (nI ((sp_net σ (sc xs n 1) false).1))), (4, .int (nI (4 * n))), (3, .ref (g1.1 13 0)), (2, .ref (g1.1 11 0)), (1, .ref (g1.1 7 0)), (0, .ref b)]) hx hb dL_law_1153 hl (by decide) rfl (fun ls hl => ?_)
    refine lv_aload_n hx hb dL_law_1155 rfl (lv_at hl 3 rfl) ?_
    refine lv_aload_n hx hb dL_law_1156 rfl (lv_at hl 5 rfl) ?_
    refine lv_iload hx hb dL_law_1157 (lv_at hl 1 rfl) ?_
    refine n_iconst hx hb 1 dL_law_1159 (by decide) ?_
    refine n_iadd hx hb dL_law_1160 ?_
    refine m_sc X Y hX hbl hbA hL (i := n) (k := 1) (by omega) dL_law_1161 ?_
    refine lv_aload_n hx hb dL_law_1162 rfl (lv_at hl 5 rfl) ?_
    refine lv_iload hx hb dL_law_1163 (lv_at hl 1 rfl) ?_
    refine n_iconst hx hb 2 dL_law_1165 (by decide) ?_
    refine n_iadd hx hb dL_law_1166 ?_
    refine m_sc X Y hX hbl hbA hL (i := n) (k := 2) (by omega) dL_law_1167 ?_
    refine lv_if_eq (tgt := 1175) hx hb dL_law_1168 (by decide) (fun _ => ?_) (fun zq => absurd hbz zq)
    refine n_iconst hx hb 0 dL_law_1175 (by decide) ?_
    refine m_Vl (As := [.int (sc xs n 1), .int (nI 0)]) (rest := []) X Y hA hcx (c_X8_net l D kc A e0 M1 hG1 hwf.1 (fun t ht => ht) (sc xs n 1) false) (cwV 2 X.1.2.2.2.2 gL_law_X8_net rfl rfl rfl (by decide +kernel) ⟨Nat.le_of_ble_eq_true rfl, Nat.le_of_ble_eq_true rfl⟩) (hG1.f11 (show 11 ≤ 13 by decide)) rfl rfl rfl hl.1 (Nat.le_of_ble_eq_true rfl) dL_law_1176 ⟨hCE, hSL⟩ (fun r2 M2 H locs hp Y => ?_)
    obtain ⟨hr2, hG2⟩ := hp
    refine lv_lstore (lv' := [(6, .long r2), (5, .int (nI ((sp_net σ (sc xs n 1) false).1))), (4, .int (nI (4 * n))), (3, .ref (g1.1 13 0)), (2, .ref (g1.1 11 0)), (1, .ref (g1.1 7 0)), (0, .ref b)]) hx hb dL_law_1179 hl (by decide) rfl (fun ls hl => ?_)
    refine lv_aload_n hx hb dL_law_1181 rfl (lv_at hl 4 rfl) ?_
    refine m_Vi (As := []) (rest := []) X Y hA hcx (c_X8_thrown l D kc A e0 M2 hG2 (fun t ht => ht)) (cwV 0 X.1.2.2.2.2 gL_law_X8_thrown rfl rfl rfl (by decide +kernel) ⟨Nat.le_of_ble_eq_true rfl, Nat.le_of_ble_eq_true rfl⟩) (hG2.f11 (show 11 ≤ 13 by decide)) rfl rfl rfl hl.1 (Nat.le_of_ble_eq_true rfl) dL_law_1182 ⟨hCE, hSL⟩ (fun r3 M3 H locs hp Y => ?_)
    obtain ⟨hr3, eM⟩ := hp
    subst hr3
    rw [eM] at Y
    have hG3 := hG2
    refine lv_iload hx hb dL_law_1185 (lv_at hl 1 rfl) ?_
    refine lv_icmp_eq (tgt := 1192) hx hb dL_law_1187 (by decide) (fun _ => ?_) (fun zq => absurd rfl zq)
    have hcl := sp_net_x σ (sc xs n 1) false
    have hcl2 : (sp_net σ (sc xs n 1) false).1 < 2147483648 := by have z := hcl; omega
    refine lv_iload hx hb dL_law_1192 (lv_at hl 1 rfl) ?_
    refine n_if_ne hx hb 1208 hcl2 dL_law_1194 (by decide) (fun hc0 => ?_) (fun hc0 => ?_)
    · refine lv_goto (tgt := 1378) hx hb dL_law_1208 (by decide) ?_
      exact kk σ _ o1 g1 M2 H locs ls hG3 (hwf.mono (by omega) hn5) Y (lv_sub hl [2, 3, 4, 5, 6] rfl)
    · refine lv_aload_n hx hb dL_law_1197 rfl (lv_at hl 3 rfl) ?_
      refine n_iconst hx hb 0 dL_law_1198 (by decide) ?_
      refine m_lald X Y (hG3.f13 (show 13 ≤ 13 by decide)) (vp_in_nI (show 0 < 1 by decide) (by decide)) (v := o1) (by rw [nI_cl (show 0 < 2147483648 by decide)]; rfl) dL_law_1199 ?_
      refine lv_lload hx hb dL_law_1200 (lv_at hl 0 rfl) ?_
      refine W.lcmp hx hb dL_law_1202 ?_
      refine lv_if_eq (tgt := 1208) hx hb dL_law_1203 (by decide) (fun _ => ?_) (fun zq => absurd (by rw [lg_cmp_eq]; exact (ho1 hc0).trans hr2.symm) zq)
      refine lv_goto (tgt := 1378) hx hb dL_law_1208 (by decide) ?_
      exact kk σ _ o1 g1 M2 H locs ls hG3 (hwf.mono (by omega) hn5) Y (lv_sub hl [2, 3, 4, 5, 6] rfl)
  · refine lv_aload_n hx hb dL_law_1128 rfl (lv_at hl 3 rfl) ?_
    refine lv_aload_n hx hb dL_law_1129 rfl (lv_at hl 4 rfl) ?_
    refine lv_iload hx hb dL_law_1130 (lv_at hl 0 rfl) ?_
    refine n_iconst hx hb 1 dL_law_1132 (by decide) ?_
    refine n_iadd hx hb dL_law_1133 ?_
    refine m_sc X Y hX hbl hbA hL (i := n) (k := 1) (by omega) dL_law_1134 ?_
    refine lv_aload_n hx hb dL_law_1135 rfl (lv_at hl 4 rfl) ?_
    refine lv_iload hx hb dL_law_1136 (lv_at hl 0 rfl) ?_
    refine n_iconst hx hb 2 dL_law_1138 (by decide) ?_
    refine n_iadd hx hb dL_law_1139 ?_
    refine m_sc X Y hX hbl hbA hL (i := n) (k := 2) (by omega) dL_law_1140 ?_
    refine lv_if_eq (tgt := 1148) hx hb dL_law_1141 (by decide) (fun zq => absurd zq hbz) (fun _ => ?_)
    refine n_iconst hx hb 1 dL_law_1144 (by decide) ?_
    refine lv_goto (tgt := 1149) hx hb dL_law_1145 (by decide) ?_
    refine lv_aload_n hx hb dL_law_1149 rfl (lv_at hl 1 rfl) ?_
    refine m_SWi (As := [.ref (g.1 7 0), .int (sc xs n 1), .int (nI 1), .ref (g.1 13 0)]) (rest := []) X Y hA hcx (c_L_net l hlt D kc A e0 M hG hwf.1 (fun t ht => ht) (sc xs n 1) true) (vx_cwSW 4 X.1.2.2.2.2 gL_law_L_net rfl rfl rfl (by decide +kernel) ⟨Nat.le_of_ble_eq_true rfl, Nat.le_of_ble_eq_true rfl⟩) rfl rfl hl.1 (Nat.le_of_ble_eq_true rfl) dL_law_1150 ⟨hCE, hSL⟩ (fun r M1 H locs hp Y => ?_)
    obtain ⟨hr1, g1, o1, hk1, hG1, ho1⟩ := hp
    subst hr1
    have e7 : g1.1 7 0 = g.1 7 0 := hk1 7 0 (by decide) (by decide) (by decide) (by decide)
    have e11 : g1.1 11 0 = g.1 11 0 := hk1 11 0 (by decide) (by decide) (by decide) (by decide)
    have e13 : g1.1 13 0 = g.1 13 0 := hk1 13 0 (by decide) (by decide) (by decide) (by decide)
    rw [← e7, ← e11, ← e13] at hl
    refine lv_istore (lv' := [(5, .int (nI ((sp_net σ (sc xs n 1) true).1))), (4, .int (nI (4 * n))), (3, .ref (g1.1 13 0)), (2, .ref (g1.1 11 0)), (1, .ref (g1.1 7 0)), (0, .ref b)]) hx hb dL_law_1153 hl (by decide) rfl (fun ls hl => ?_)
    refine lv_aload_n hx hb dL_law_1155 rfl (lv_at hl 3 rfl) ?_
    refine lv_aload_n hx hb dL_law_1156 rfl (lv_at hl 5 rfl) ?_
    refine lv_iload hx hb dL_law_1157 (lv_at hl 1 rfl) ?_
    refine n_iconst hx hb 1 dL_law_1159 (by decide) ?_
    refine n_iadd hx hb dL_law_1160 ?_
    refine m_sc X Y hX hbl hbA hL (i := n) (k := 1) (by omega) dL_law_1161 ?_
    refine lv_aload_n hx hb dL_law_1162 rfl (lv_at hl 5 rfl) ?_
    refine lv_iload hx hb dL_law_1163 (lv_at hl 1 rfl) ?_
    refine n_iconst hx hb 2 dL_law_1165 (by decide) ?_
    refine n_iadd hx hb dL_law_1166 ?_
    refine m_sc X Y hX hbl hbA hL (i := n) (k := 2) (by omega) dL_law_1167 ?_
    refine lv_if_eq (tgt := 1175) hx hb dL_law_1168 (by decide) (fun zq => absurd zq hbz) (fun _ => ?_)
    refine n_iconst hx hb 1 dL_law_1171 (by decide) ?_
    refine lv_goto (tgt := 1176) hx hb dL_law_1172 (by decide) ?_
    refine m_Vl (As := [.int (sc xs n 1), .int (nI 1)]) (rest := []) X Y hA hcx (c_X8_net l D kc A e0 M1 hG1 hwf.1 (fun t ht => ht) (sc xs n 1) true) (cwV 2 X.1.2.2.2.2 gL_law_X8_net rfl rfl rfl (by decide +kernel) ⟨Nat.le_of_ble_eq_true rfl, Nat.le_of_ble_eq_true rfl⟩) (hG1.f11 (show 11 ≤ 13 by decide)) rfl rfl rfl hl.1 (Nat.le_of_ble_eq_true rfl) dL_law_1176 ⟨hCE, hSL⟩ (fun r2 M2 H locs hp Y => ?_)
    obtain ⟨hr2, hG2⟩ := hp
    refine lv_lstore (lv' := [(6, .long r2), (5, .int (nI ((sp_net σ (sc xs n 1) true).1))), (4, .int (nI (4 * n))), (3, .ref (g1.1 13 0)), (2, .ref (g1.1 11 0)), (1, .ref (g1.1 7 0)), (0, .ref b)]) hx hb dL_law_1179 hl (by decide) rfl (fun ls hl => ?_)
    refine lv_aload_n hx hb dL_law_1181 rfl (lv_at hl 4 rfl) ?_
    refine m_Vi (As := []) (rest := []) X Y hA hcx (c_X8_thrown l D kc A e0 M2 hG2 (fun t ht => ht)) (cwV 0 X.1.2.2.2.2 gL_law_X8_thrown rfl rfl rfl (by decide +kernel) ⟨Nat.le_of_ble_eq_true rfl, Nat.le_of_ble_eq_true rfl⟩) (hG2.f11 (show 11 ≤ 13 by decide)) rfl rfl rfl hl.1 (Nat.le_of_ble_eq_true rfl) dL_law_1182 ⟨hCE, hSL⟩ (fun r3 M3 H locs hp Y => ?_)
    obtain ⟨hr3, eM⟩ := hp
    subst hr3
    rw [eM] at Y
    have hG3 := hG2
    refine lv_iload hx hb dL_law_1185 (lv_at hl 1 rfl) ?_
    refine lv_icmp_eq (tgt := 1192) hx hb dL_law_1187 (by decide) (fun _ => ?_) (fun zq => absurd rfl zq)
    have hcl := sp_net_x σ (sc xs n 1) true
    have hcl2 : (sp_net σ (sc xs n 1) true).1 < 2147483648 := by have z := hcl; omega
    refine lv_iload hx hb dL_law_1192 (lv_at hl 1 rfl) ?_
    refine n_if_ne hx hb 1208 hcl2 dL_law_1194 (by decide) (fun hc0 => ?_) (fun hc0 => ?_)
    · refine lv_goto (tgt := 1378) hx hb dL_law_1208 (by decide) ?_
      exact kk σ _ o1 g1 M2 H locs ls hG3 (hwf.mono (by omega) hn5) Y (lv_sub hl [2, 3, 4, 5, 6] rfl)
    · refine lv_aload_n hx hb dL_law_1197 rfl (lv_at hl 3 rfl) ?_
      refine n_iconst hx hb 0 dL_law_1198 (by decide) ?_
      refine m_lald X Y (hG3.f13 (show 13 ≤ 13 by decide)) (vp_in_nI (show 0 < 1 by decide) (by decide)) (v := o1) (by rw [nI_cl (show 0 < 2147483648 by decide)]; rfl) dL_law_1199 ?_
      refine lv_lload hx hb dL_law_1200 (lv_at hl 0 rfl) ?_
      refine W.lcmp hx hb dL_law_1202 ?_
      refine lv_if_eq (tgt := 1208) hx hb dL_law_1203 (by decide) (fun _ => ?_) (fun zq => absurd (by rw [lg_cmp_eq]; exact (ho1 hc0).trans hr2.symm) zq)
      refine lv_goto (tgt := 1378) hx hb dL_law_1208 (by decide) ?_
      exact kk σ _ o1 g1 M2 H locs ls hG3 (hwf.mono (by omega) hn5) Y (lv_sub hl [2, 3, 4, 5, 6] rfl)
set_option maxHeartbeats 4000000 in
set_option maxRecDepth 100000 in
theorem law_netAnew {p : Program} {l : Launch} (hlt : l.stackTraces = false) {e : Env} {s : State} {m : MethodId} {below : List Frame} {meth : Method} {c : Code} {H : Heap} {locs : List Loc} {CE SL : Nat} {Q : State → Prop} {D : va_G} {kc : Nat → ClassId} {A : Nat → Prop} {M : Mp} {ls : Array Slot} {e0 : Nat × Nat} {b L : Nat} {xs : Nat → Int32} {σ : Sg} {th : Int32} {o : Int64} {g : Gh} {n : Nat} (X : mX p s m #[Value.ref b] c cL_law 8 RL wsL_law D kc) (hA : ∀ q, s.heap.size ≤ q → A q) (hcx : cx A e0 s) (hX : va_X b L xs s s.heap) (hbl : b < s.heap.size) (hbA : ¬ A b) (hL : L ≤ 2048) (hnL : 4 * n + 4 ≤ L) (hn5 : n + 1 ≤ 600) (hCE : CE + 12 ≤ room_1.cells) (hSL : SL + 320 ≤ room_1.slots) (hG : G prL kc e0 σ σ th o g M) (hwf : WF n σ) (Y : mY D A M s H locs) (hl : lv_has ls 8 (lawL b n g)) (kk : ∀ (σ1 : Sg) (th1 : Int32) (o1 : Int64) (g1 : Gh) (M1 : Mp) (H1 : Heap) (locs1 : List Loc) (ls1 : Array Slot), G prL kc e0 σ1 σ1 th1 o1 g1 M1 → WF (n + 1) σ1 → mY D A M1 s H1 locs1 → lv_has ls1 8 (lawL b n g1) → W p l e room_1 s m #[Value.ref b] below meth c H1 locs1 (CE + 12) (SL + 320) Q (F0 m 1378 ls1 [])) : W p l e room_1 s m #[Value.ref b] below meth c H locs CE SL Q (F0 m 1211 ls []) := by
  have hx := X.1.1
  have hb := X.1.2.1
  replace hl : lv_has ls 8 [(4, .int (nI (4 * n))), (3, .ref (g.1 13 0)), (2, .ref (g.1 11 0)), (1, .ref (g.1 7 0)), (0, .ref b)] := hl
  refine lv_aload_n hx hb dL_law_1211 rfl (lv_at hl 3 rfl) ?_
  refine lv_aload_n hx hb dL_law_1212 rfl (lv_at hl 4 rfl) ?_
  refine lv_iload hx hb dL_law_1213 (lv_at hl 0 rfl) ?_
  refine n_iconst hx hb 1 dL_law_1215 (by decide) ?_
  refine n_iadd hx hb dL_law_1216 ?_
  refine m_sc X Y hX hbl hbA hL (i := n) (k := 1) (by omega) dL_law_1217 ?_
  refine lv_aload_n hx hb dL_law_1218 rfl (lv_at hl 1 rfl) ?_
  refine m_SWi (As := [.ref (g.1 7 0), .int (sc xs n 1), .ref (g.1 13 0)]) (rest := []) X Y hA hcx (c_L_netAnew l hlt D kc A e0 M hG hwf.1 (fun t ht => ht) (sc xs n 1) hwf.2.2) (vx_cwSW 3 X.1.2.2.2.2 gL_law_L_netAnew rfl rfl rfl (by decide +kernel) ⟨Nat.le_of_ble_eq_true rfl, Nat.le_of_ble_eq_true rfl⟩) rfl rfl hl.1 (Nat.le_of_ble_eq_true rfl) dL_law_1219 ⟨hCE, hSL⟩ (fun r M1 H locs hp Y => ?_)
  obtain ⟨hr1, g1, o1, hk1, hG1, ho1⟩ := hp
  subst hr1
  have e7 : g1.1 7 0 = g.1 7 0 := hk1 7 0 (by decide) (by decide) (by decide) (by decide)
  have e11 : g1.1 11 0 = g.1 11 0 := hk1 11 0 (by decide) (by decide) (by decide) (by decide)
  have e13 : g1.1 13 0 = g.1 13 0 := hk1 13 0 (by decide) (by decide) (by decide) (by decide)
  rw [← e7, ← e11, ← e13] at hl
  refine lv_istore (lv' := [(5, .int (nI ((sp_netAnew σ (sc xs n 1)).1))), (4, .int (nI (4 * n))), (3, .ref (g1.1 13 0)), (2, .ref (g1.1 11 0)), (1, .ref (g1.1 7 0)), (0, .ref b)]) hx hb dL_law_1222 hl (by decide) rfl (fun ls hl => ?_)
  refine lv_aload_n hx hb dL_law_1224 rfl (lv_at hl 3 rfl) ?_
  refine lv_aload_n hx hb dL_law_1225 rfl (lv_at hl 5 rfl) ?_
  refine lv_iload hx hb dL_law_1226 (lv_at hl 1 rfl) ?_
  refine n_iconst hx hb 1 dL_law_1228 (by decide) ?_
  refine n_iadd hx hb dL_law_1229 ?_
  refine m_sc X Y hX hbl hbA hL (i := n) (k := 1) (by omega) dL_law_1230 ?_
  refine m_Vl (As := [.int (sc xs n 1)]) (rest := []) X Y hA hcx (c_X8_netAnew l D kc A e0 M1 hG1 hwf.1 (fun t ht => ht) (sc xs n 1)) (cwV 1 X.1.2.2.2.2 gL_law_X8_netAnew rfl rfl rfl (by decide +kernel) ⟨Nat.le_of_ble_eq_true rfl, Nat.le_of_ble_eq_true rfl⟩) (hG1.f11 (show 11 ≤ 13 by decide)) rfl rfl rfl hl.1 (Nat.le_of_ble_eq_true rfl) dL_law_1231 ⟨hCE, hSL⟩ (fun r2 M2 H locs hp Y => ?_)
  obtain ⟨hr2, hG2⟩ := hp
  refine lv_lstore (lv' := [(6, .long r2), (5, .int (nI ((sp_netAnew σ (sc xs n 1)).1))), (4, .int (nI (4 * n))), (3, .ref (g1.1 13 0)), (2, .ref (g1.1 11 0)), (1, .ref (g1.1 7 0)), (0, .ref b)]) hx hb dL_law_1234 hl (by decide) rfl (fun ls hl => ?_)
  refine lv_aload_n hx hb dL_law_1236 rfl (lv_at hl 4 rfl) ?_
  refine m_Vi (As := []) (rest := []) X Y hA hcx (c_X8_thrown l D kc A e0 M2 hG2 (fun t ht => ht)) (cwV 0 X.1.2.2.2.2 gL_law_X8_thrown rfl rfl rfl (by decide +kernel) ⟨Nat.le_of_ble_eq_true rfl, Nat.le_of_ble_eq_true rfl⟩) (hG2.f11 (show 11 ≤ 13 by decide)) rfl rfl rfl hl.1 (Nat.le_of_ble_eq_true rfl) dL_law_1237 ⟨hCE, hSL⟩ (fun r3 M3 H locs hp Y => ?_)
  obtain ⟨hr3, eM⟩ := hp
  subst hr3
  rw [eM] at Y
  have hG3 := hG2
  refine lv_iload hx hb dL_law_1240 (lv_at hl 1 rfl) ?_
  refine lv_icmp_eq (tgt := 1247) hx hb dL_law_1242 (by decide) (fun _ => ?_) (fun zq => absurd rfl zq)
  have hcl := sp_netAnew_x σ (sc xs n 1)
  have hcl2 : (sp_netAnew σ (sc xs n 1)).1 < 2147483648 := by have z := hcl; omega
  refine lv_iload hx hb dL_law_1247 (lv_at hl 1 rfl) ?_
  refine n_if_ne hx hb 1263 hcl2 dL_law_1249 (by decide) (fun hc0 => ?_) (fun hc0 => ?_)
  · refine lv_goto (tgt := 1378) hx hb dL_law_1263 (by decide) ?_
    exact kk σ _ o1 g1 M2 H locs ls hG3 (hwf.mono (by omega) hn5) Y (lv_sub hl [2, 3, 4, 5, 6] rfl)
  · refine lv_aload_n hx hb dL_law_1252 rfl (lv_at hl 3 rfl) ?_
    refine n_iconst hx hb 0 dL_law_1253 (by decide) ?_
    refine m_lald X Y (hG3.f13 (show 13 ≤ 13 by decide)) (vp_in_nI (show 0 < 1 by decide) (by decide)) (v := o1) (by rw [nI_cl (show 0 < 2147483648 by decide)]; rfl) dL_law_1254 ?_
    refine lv_lload hx hb dL_law_1255 (lv_at hl 0 rfl) ?_
    refine W.lcmp hx hb dL_law_1257 ?_
    refine lv_if_eq (tgt := 1263) hx hb dL_law_1258 (by decide) (fun _ => ?_) (fun zq => absurd (by rw [lg_cmp_eq]; exact (ho1 hc0).trans hr2.symm) zq)
    refine lv_goto (tgt := 1378) hx hb dL_law_1263 (by decide) ?_
    exact kk σ _ o1 g1 M2 H locs ls hG3 (hwf.mono (by omega) hn5) Y (lv_sub hl [2, 3, 4, 5, 6] rfl)
set_option maxHeartbeats 4000000 in
set_option maxRecDepth 100000 in
theorem law_due {p : Program} {l : Launch} (hlt : l.stackTraces = false) {e : Env} {s : State} {m : MethodId} {below : List Frame} {meth : Method} {c : Code} {H : Heap} {locs : List Loc} {CE SL : Nat} {Q : State → Prop} {D : va_G} {kc : Nat → ClassId} {A : Nat → Prop} {M : Mp} {ls : Array Slot} {e0 : Nat × Nat} {b L : Nat} {xs : Nat → Int32} {σ : Sg} {th : Int32} {o : Int64} {g : Gh} {n : Nat} (X : mX p s m #[Value.ref b] c cL_law 8 RL wsL_law D kc) (hA : ∀ q, s.heap.size ≤ q → A q) (hcx : cx A e0 s) (hX : va_X b L xs s s.heap) (hbl : b < s.heap.size) (hbA : ¬ A b) (hL : L ≤ 2048) (hnL : 4 * n + 4 ≤ L) (hn5 : n + 1 ≤ 600) (hCE : CE + 12 ≤ room_1.cells) (hSL : SL + 320 ≤ room_1.slots) (hG : G prL kc e0 σ σ th o g M) (hwf : WF n σ) (Y : mY D A M s H locs) (hl : lv_has ls 8 (lawL b n g)) (kk : ∀ (σ1 : Sg) (th1 : Int32) (o1 : Int64) (g1 : Gh) (M1 : Mp) (H1 : Heap) (locs1 : List Loc) (ls1 : Array Slot), G prL kc e0 σ1 σ1 th1 o1 g1 M1 → WF (n + 1) σ1 → mY D A M1 s H1 locs1 → lv_has ls1 8 (lawL b n g1) → W p l e room_1 s m #[Value.ref b] below meth c H1 locs1 (CE + 12) (SL + 320) Q (F0 m 1378 ls1 [])) : W p l e room_1 s m #[Value.ref b] below meth c H locs CE SL Q (F0 m 1266 ls []) := by
  have hx := X.1.1
  have hb := X.1.2.1
  replace hl : lv_has ls 8 [(4, .int (nI (4 * n))), (3, .ref (g.1 13 0)), (2, .ref (g.1 11 0)), (1, .ref (g.1 7 0)), (0, .ref b)] := hl
  refine lv_aload_n hx hb dL_law_1266 rfl (lv_at hl 3 rfl) ?_
  refine lv_aload_n hx hb dL_law_1267 rfl (lv_at hl 4 rfl) ?_
  refine lv_iload hx hb dL_law_1268 (lv_at hl 0 rfl) ?_
  refine n_iconst hx hb 1 dL_law_1270 (by decide) ?_
  refine n_iadd hx hb dL_law_1271 ?_
  refine m_sc X Y hX hbl hbA hL (i := n) (k := 1) (by omega) dL_law_1272 ?_
  refine lv_aload_n hx hb dL_law_1273 rfl (lv_at hl 1 rfl) ?_
  refine m_SWi (As := [.ref (g.1 7 0), .int (sc xs n 1), .ref (g.1 13 0)]) (rest := []) X Y hA hcx (c_L_due l hlt D kc A e0 M hG hwf.1 (fun t ht => ht) (sc xs n 1)) (vx_cwSW 3 X.1.2.2.2.2 gL_law_L_due rfl rfl rfl (by decide +kernel) ⟨Nat.le_of_ble_eq_true rfl, Nat.le_of_ble_eq_true rfl⟩) rfl rfl hl.1 (Nat.le_of_ble_eq_true rfl) dL_law_1274 ⟨hCE, hSL⟩ (fun r M1 H locs hp Y => ?_)
  obtain ⟨hr1, g1, o1, hk1, hG1, ho1⟩ := hp
  subst hr1
  have e7 : g1.1 7 0 = g.1 7 0 := hk1 7 0 (by decide) (by decide) (by decide) (by decide)
  have e11 : g1.1 11 0 = g.1 11 0 := hk1 11 0 (by decide) (by decide) (by decide) (by decide)
  have e13 : g1.1 13 0 = g.1 13 0 := hk1 13 0 (by decide) (by decide) (by decide) (by decide)
  rw [← e7, ← e11, ← e13] at hl
  refine lv_istore (lv' := [(5, .int (nI ((sp_due σ (sc xs n 1)).1))), (4, .int (nI (4 * n))), (3, .ref (g1.1 13 0)), (2, .ref (g1.1 11 0)), (1, .ref (g1.1 7 0)), (0, .ref b)]) hx hb dL_law_1277 hl (by decide) rfl (fun ls hl => ?_)
  refine lv_aload_n hx hb dL_law_1279 rfl (lv_at hl 3 rfl) ?_
  refine lv_aload_n hx hb dL_law_1280 rfl (lv_at hl 5 rfl) ?_
  refine lv_iload hx hb dL_law_1281 (lv_at hl 1 rfl) ?_
  refine n_iconst hx hb 1 dL_law_1283 (by decide) ?_
  refine n_iadd hx hb dL_law_1284 ?_
  refine m_sc X Y hX hbl hbA hL (i := n) (k := 1) (by omega) dL_law_1285 ?_
  refine m_Vi (As := [.int (sc xs n 1)]) (rest := []) X Y hA hcx (c_X8_due l D kc A e0 M1 hG1 hwf.1 (fun t ht => ht) (sc xs n 1)) (cwV 1 X.1.2.2.2.2 gL_law_X8_due rfl rfl rfl (by decide +kernel) ⟨Nat.le_of_ble_eq_true rfl, Nat.le_of_ble_eq_true rfl⟩) (hG1.f11 (show 11 ≤ 13 by decide)) rfl rfl rfl hl.1 (Nat.le_of_ble_eq_true rfl) dL_law_1286 ⟨hCE, hSL⟩ (fun r2 M2 H locs hp Y => ?_)
  obtain ⟨hr2, hG2⟩ := hp
  refine lv_istore (lv' := [(6, .int r2), (5, .int (nI ((sp_due σ (sc xs n 1)).1))), (4, .int (nI (4 * n))), (3, .ref (g1.1 13 0)), (2, .ref (g1.1 11 0)), (1, .ref (g1.1 7 0)), (0, .ref b)]) hx hb dL_law_1289 hl (by decide) rfl (fun ls hl => ?_)
  refine lv_aload_n hx hb dL_law_1291 rfl (lv_at hl 4 rfl) ?_
  refine m_Vi (As := []) (rest := []) X Y hA hcx (c_X8_thrown l D kc A e0 M2 hG2 (fun t ht => ht)) (cwV 0 X.1.2.2.2.2 gL_law_X8_thrown rfl rfl rfl (by decide +kernel) ⟨Nat.le_of_ble_eq_true rfl, Nat.le_of_ble_eq_true rfl⟩) (hG2.f11 (show 11 ≤ 13 by decide)) rfl rfl rfl hl.1 (Nat.le_of_ble_eq_true rfl) dL_law_1292 ⟨hCE, hSL⟩ (fun r3 M3 H locs hp Y => ?_)
  obtain ⟨hr3, eM⟩ := hp
  subst hr3
  rw [eM] at Y
  have hG3 := hG2
  refine lv_iload hx hb dL_law_1295 (lv_at hl 1 rfl) ?_
  refine lv_icmp_eq (tgt := 1302) hx hb dL_law_1297 (by decide) (fun _ => ?_) (fun zq => absurd rfl zq)
  have hcl := sp_due_x σ (sc xs n 1)
  have hcl2 : (sp_due σ (sc xs n 1)).1 < 2147483648 := by have z := hcl.1; omega
  refine lv_iload hx hb dL_law_1302 (lv_at hl 1 rfl) ?_
  refine n_if_ne hx hb 1319 hcl2 dL_law_1304 (by decide) (fun hc0 => ?_) (fun hc0 => ?_)
  · refine lv_goto (tgt := 1378) hx hb dL_law_1319 (by decide) ?_
    exact kk ((sp_due σ (sc xs n 1)).2.2) _ o1 g1 M2 H locs ls hG3 (by rw [sp_due_s]; exact hwf.mono (by omega) hn5) Y (lv_sub hl [2, 3, 4, 5, 6] rfl)
  · refine lv_aload_n hx hb dL_law_1307 rfl (lv_at hl 3 rfl) ?_
    refine n_iconst hx hb 0 dL_law_1308 (by decide) ?_
    refine m_lald X Y (hG3.f13 (show 13 ≤ 13 by decide)) (vp_in_nI (show 0 < 1 by decide) (by decide)) (v := o1) (by rw [nI_cl (show 0 < 2147483648 by decide)]; rfl) dL_law_1309 ?_
    refine lv_iload hx hb dL_law_1310 (lv_at hl 0 rfl) ?_
    refine lv_i2l hx hb dL_law_1312 rfl ?_
    refine W.lcmp hx hb dL_law_1313 ?_
    refine lv_if_eq (tgt := 1319) hx hb dL_law_1314 (by decide) (fun _ => ?_) (fun zq => absurd (by rw [lg_cmp_eq]; exact (ho1 hc0).trans (congrArg Int32.toInt64 hr2.symm)) zq)
    refine lv_goto (tgt := 1378) hx hb dL_law_1319 (by decide) ?_
    exact kk ((sp_due σ (sc xs n 1)).2.2) _ o1 g1 M2 H locs ls hG3 (by rw [sp_due_s]; exact hwf.mono (by omega) hn5) Y (lv_sub hl [2, 3, 4, 5, 6] rfl)
set_option maxHeartbeats 4000000 in
set_option maxRecDepth 100000 in
theorem law_count {p : Program} {l : Launch} (hlt : l.stackTraces = false) {e : Env} {s : State} {m : MethodId} {below : List Frame} {meth : Method} {c : Code} {H : Heap} {locs : List Loc} {CE SL : Nat} {Q : State → Prop} {D : va_G} {kc : Nat → ClassId} {A : Nat → Prop} {M : Mp} {ls : Array Slot} {e0 : Nat × Nat} {b L : Nat} {xs : Nat → Int32} {σ : Sg} {th : Int32} {o : Int64} {g : Gh} {n : Nat} (X : mX p s m #[Value.ref b] c cL_law 8 RL wsL_law D kc) (hA : ∀ q, s.heap.size ≤ q → A q) (hcx : cx A e0 s) (hX : va_X b L xs s s.heap) (hbl : b < s.heap.size) (hbA : ¬ A b) (hL : L ≤ 2048) (hnL : 4 * n + 4 ≤ L) (hn5 : n + 1 ≤ 600) (hCE : CE + 12 ≤ room_1.cells) (hSL : SL + 320 ≤ room_1.slots) (hG : G prL kc e0 σ σ th o g M) (hwf : WF n σ) (Y : mY D A M s H locs) (hl : lv_has ls 8 (lawL b n g)) (kk : ∀ (σ1 : Sg) (th1 : Int32) (o1 : Int64) (g1 : Gh) (M1 : Mp) (H1 : Heap) (locs1 : List Loc) (ls1 : Array Slot), G prL kc e0 σ1 σ1 th1 o1 g1 M1 → WF (n + 1) σ1 → mY D A M1 s H1 locs1 → lv_has ls1 8 (lawL b n g1) → W p l e room_1 s m #[Value.ref b] below meth c H1 locs1 (CE + 12) (SL + 320) Q (F0 m 1378 ls1 [])) : W p l e room_1 s m #[Value.ref b] below meth c H locs CE SL Q (F0 m 1322 ls []) := by
  have hx := X.1.1
  have hb := X.1.2.1
  replace hl : lv_has ls 8 [(4, .int (nI (4 * n))), (3, .ref (g.1 13 0)), (2, .ref (g.1 11 0)), (1, .ref (g.1 7 0)), (0, .ref b)] := hl
  refine lv_aload_n hx hb dL_law_1322 rfl (lv_at hl 3 rfl) ?_
  refine lv_aload_n hx hb dL_law_1323 rfl (lv_at hl 4 rfl) ?_
  refine lv_iload hx hb dL_law_1324 (lv_at hl 0 rfl) ?_
  refine n_iconst hx hb 1 dL_law_1326 (by decide) ?_
  refine n_iadd hx hb dL_law_1327 ?_
  refine m_sc X Y hX hbl hbA hL (i := n) (k := 1) (by omega) dL_law_1328 ?_
  refine lv_aload_n hx hb dL_law_1329 rfl (lv_at hl 1 rfl) ?_
  refine m_SWi (As := [.ref (g.1 7 0), .int (sc xs n 1), .ref (g.1 13 0)]) (rest := []) X Y hA hcx (c_L_count l hlt D kc A e0 M hG hwf.1 (fun t ht => ht) (sc xs n 1) hwf.2.1) (vx_cwSW 3 X.1.2.2.2.2 gL_law_L_count rfl rfl rfl (by decide +kernel) ⟨Nat.le_of_ble_eq_true rfl, Nat.le_of_ble_eq_true rfl⟩) rfl rfl hl.1 (Nat.le_of_ble_eq_true rfl) dL_law_1330 ⟨hCE, hSL⟩ (fun r M1 H locs hp Y => ?_)
  obtain ⟨hr1, g1, o1, hk1, hG1, ho1⟩ := hp
  subst hr1
  have e7 : g1.1 7 0 = g.1 7 0 := hk1 7 0 (by decide) (by decide) (by decide) (by decide)
  have e11 : g1.1 11 0 = g.1 11 0 := hk1 11 0 (by decide) (by decide) (by decide) (by decide)
  have e13 : g1.1 13 0 = g.1 13 0 := hk1 13 0 (by decide) (by decide) (by decide) (by decide)
  rw [← e7, ← e11, ← e13] at hl
  refine lv_istore (lv' := [(5, .int (nI ((sp_count σ (sc xs n 1)).1))), (4, .int (nI (4 * n))), (3, .ref (g1.1 13 0)), (2, .ref (g1.1 11 0)), (1, .ref (g1.1 7 0)), (0, .ref b)]) hx hb dL_law_1333 hl (by decide) rfl (fun ls hl => ?_)
  refine lv_aload_n hx hb dL_law_1335 rfl (lv_at hl 3 rfl) ?_
  refine lv_aload_n hx hb dL_law_1336 rfl (lv_at hl 5 rfl) ?_
  refine lv_iload hx hb dL_law_1337 (lv_at hl 1 rfl) ?_
  refine n_iconst hx hb 1 dL_law_1339 (by decide) ?_
  refine n_iadd hx hb dL_law_1340 ?_
  refine m_sc X Y hX hbl hbA hL (i := n) (k := 1) (by omega) dL_law_1341 ?_
  refine m_Vi (As := [.int (sc xs n 1)]) (rest := []) X Y hA hcx (c_X8_count l D kc A e0 M1 hG1 hwf.1 (fun t ht => ht) (sc xs n 1)) (cwV 1 X.1.2.2.2.2 gL_law_X8_count rfl rfl rfl (by decide +kernel) ⟨Nat.le_of_ble_eq_true rfl, Nat.le_of_ble_eq_true rfl⟩) (hG1.f11 (show 11 ≤ 13 by decide)) rfl rfl rfl hl.1 (Nat.le_of_ble_eq_true rfl) dL_law_1342 ⟨hCE, hSL⟩ (fun r2 M2 H locs hp Y => ?_)
  obtain ⟨hr2, hG2⟩ := hp
  refine lv_istore (lv' := [(6, .int r2), (5, .int (nI ((sp_count σ (sc xs n 1)).1))), (4, .int (nI (4 * n))), (3, .ref (g1.1 13 0)), (2, .ref (g1.1 11 0)), (1, .ref (g1.1 7 0)), (0, .ref b)]) hx hb dL_law_1345 hl (by decide) rfl (fun ls hl => ?_)
  refine lv_aload_n hx hb dL_law_1347 rfl (lv_at hl 4 rfl) ?_
  refine m_Vi (As := []) (rest := []) X Y hA hcx (c_X8_thrown l D kc A e0 M2 hG2 (fun t ht => ht)) (cwV 0 X.1.2.2.2.2 gL_law_X8_thrown rfl rfl rfl (by decide +kernel) ⟨Nat.le_of_ble_eq_true rfl, Nat.le_of_ble_eq_true rfl⟩) (hG2.f11 (show 11 ≤ 13 by decide)) rfl rfl rfl hl.1 (Nat.le_of_ble_eq_true rfl) dL_law_1348 ⟨hCE, hSL⟩ (fun r3 M3 H locs hp Y => ?_)
  obtain ⟨hr3, eM⟩ := hp
  subst hr3
  rw [eM] at Y
  have hG3 := hG2
  refine lv_iload hx hb dL_law_1351 (lv_at hl 1 rfl) ?_
  refine lv_icmp_eq (tgt := 1358) hx hb dL_law_1353 (by decide) (fun _ => ?_) (fun zq => absurd rfl zq)
  have hcl := sp_count_x σ (sc xs n 1)
  have hcl2 : (sp_count σ (sc xs n 1)).1 < 2147483648 := by have z := hcl.1; omega
  refine lv_iload hx hb dL_law_1358 (lv_at hl 1 rfl) ?_
  refine n_if_ne hx hb 1375 hcl2 dL_law_1360 (by decide) (fun hc0 => ?_) (fun hc0 => ?_)
  · refine lv_goto (tgt := 1378) hx hb dL_law_1375 (by decide) ?_
    exact kk ((sp_count σ (sc xs n 1)).2.2) _ o1 g1 M2 H locs ls hG3 (by rw [sp_count_s]; exact hwf.mono (by omega) hn5) Y (lv_sub hl [2, 3, 4, 5, 6] rfl)
  · refine lv_aload_n hx hb dL_law_1363 rfl (lv_at hl 3 rfl) ?_
    refine n_iconst hx hb 0 dL_law_1364 (by decide) ?_
    refine m_lald X Y (hG3.f13 (show 13 ≤ 13 by decide)) (vp_in_nI (show 0 < 1 by decide) (by decide)) (v := o1) (by rw [nI_cl (show 0 < 2147483648 by decide)]; rfl) dL_law_1365 ?_
    refine lv_iload hx hb dL_law_1366 (lv_at hl 0 rfl) ?_
    refine lv_i2l hx hb dL_law_1368 rfl ?_
    refine W.lcmp hx hb dL_law_1369 ?_
    refine lv_if_eq (tgt := 1375) hx hb dL_law_1370 (by decide) (fun _ => ?_) (fun zq => absurd (by rw [lg_cmp_eq]; exact (ho1 hc0).trans (congrArg Int32.toInt64 hr2.symm)) zq)
    refine lv_goto (tgt := 1378) hx hb dL_law_1375 (by decide) ?_
    exact kk ((sp_count σ (sc xs n 1)).2.2) _ o1 g1 M2 H locs ls hG3 (by rw [sp_count_s]; exact hwf.mono (by omega) hn5) Y (lv_sub hl [2, 3, 4, 5, 6] rfl)
