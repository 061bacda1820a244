theorem as_self (vm : Vm) (c : ClassId) : vm.assignable c c = true := by
  show vm.assignableAux (255 + 1) c c = true
  rw [Vm.assignableAux]
  simp only [beq_self_eq_true, Bool.true_or]
theorem cast_self {C : String} {n : Nat} {A : Array Value} {s : State} (h : (Cond.instantiable C n).before A s = true) : (Cond.castable C C).before A s = true := by
  obtain ⟨c, k, hc, -⟩ := Cond.instantiable_spec h
  simp [Cond.before, Cond.holds, Cond.value, hc, as_self]
theorem arr_int {A : Array Value} {s : State} (h : (Cond.arrayClass .int).before A s = true) : ∃ cA : ClassId, ArrOfT s cA .int ∧ va_RA s cA .int := by
  obtain ⟨cA, kA, comp, h1, h2, h3⟩ := Cond.arrayClass_spec h
  exact ⟨cA, fun N z => ⟨fun k h => (by cases h), kA, h2, comp, h3⟩, h1⟩
theorem arr_long {A : Array Value} {s : State} (h : (Cond.arrayClass .long).before A s = true) : ∃ cA : ClassId, ArrOfT s cA .long ∧ va_RA s cA .long := by
  obtain ⟨cA, kA, comp, h1, h2, h3⟩ := Cond.arrayClass_spec h
  exact ⟨cA, fun N z => ⟨fun k h => (by cases h), kA, h2, comp, h3⟩, h1⟩
theorem arr_boolean {A : Array Value} {s : State} (h : (Cond.arrayClass .boolean).before A s = true) : ∃ cA : ClassId, ArrOfT s cA .boolean ∧ va_RA s cA .boolean := by
  obtain ⟨cA, kA, comp, h1, h2, h3⟩ := Cond.arrayClass_spec h
  exact ⟨cA, fun N z => ⟨fun k h => (by cases h), kA, h2, comp, h3⟩, h1⟩
theorem arr_ob {C : String} {A : Array Value} {s : State} (h : (Cond.arrayOver (.object C)).before A s = true) : ∃ cA : ClassId, ArrOfT s cA (.object C) ∧ va_RA s cA (.object C) := by
  obtain ⟨comp, c, k, h1, h2, h3, h4, h5⟩ := Cond.arrayOver_spec h
  exact ⟨c, fun N z => ⟨fun k h => (by cases h), k, h3, comp, h4⟩, k, comp, h3, h4, h1, h5⟩
theorem str_R {k : Nat} {tx : String} {A : Array Value} {s : State} (h1 : (Cond.stringRef RX7 k tx).before A s = true) (h2 : (Cond.exactly (.string RX7 k) "java/lang/String").before A s = true) : ∃ sa, vk_R RX7 k tx sa s := by
  obtain ⟨a, c, cell, k9, h, -⟩ := Cond.exactly_spec h2
  exact ⟨a, vk_R.of h1 h⟩
set_option maxHeartbeats 4000000 in
set_option maxRecDepth 100000 in
theorem st_K {A : Array Value} {s : State} (hts : ∀ w ∈ lw_tbl, w.before A s = true) : ∃ (D : va_G) (kc : Nat → ClassId), va_K D vwCl (tyL kc) s := by
  obtain ⟨c0, i0, k0⟩ := u_known (C := RJx4a65c) (T := TJx4a65c) (N := 3) (n := 3) hts inJx4a65c (hts (Cond.instantiable "java/util/ArrayList" 3) (List.mem_append_right _ (List.mem_of_getElem? (i := 42) (by decide +kernel))))
  obtain ⟨c1, i1, k1⟩ := u_known (C := RX0) (T := TX0) (N := 2) (n := 2) hts inX0 (hts (Cond.instantiable "CardPort$Bank" 2) (List.mem_append_right _ (List.mem_of_getElem? (i := 67) (by decide +kernel))))
  obtain ⟨c2, i2, k2⟩ := u_known (C := RX1) (T := TX1) (N := 5) (n := 5) hts inX1 (hts (Cond.instantiable "CardPort$Capture" 5) (List.mem_append_right _ (List.mem_of_getElem? (i := 463) (by decide +kernel))))
  obtain ⟨c3, i3, k3⟩ := u_known (C := RX2) (T := TX2) (N := 2) (n := 2) hts inX2 (hts (Cond.instantiable "CardPort$Card" 2) (List.mem_append_right _ (List.mem_of_getElem? (i := 117) (by decide +kernel))))
  obtain ⟨c4, i4, k4⟩ := u_known (C := RX3) (T := TX3) (N := 5) (n := 5) hts inX3 (hts (Cond.instantiable "CardPort$Chargeback" 5) (List.mem_append_right _ (List.mem_of_getElem? (i := 536) (by decide +kernel))))
  obtain ⟨c5, i5, k5⟩ := u_known (C := RX4) (T := TX4) (N := 3) (n := 3) hts inX4 (hts (Cond.instantiable "CardPort$Kind" 3) (List.mem_append_right _ (List.mem_of_getElem? (i := 81) (by decide +kernel))))
  obtain ⟨c6, i6, k6⟩ := u_known (C := RX5) (T := TX5) (N := 7) (n := 7) hts inX5 (hts (Cond.instantiable "CardPort$Payment" 7) (List.mem_append_right _ (List.mem_of_getElem? (i := 346) (by decide +kernel))))
  obtain ⟨c7, i7, k7⟩ := u_known (C := RX6) (T := TX6) (N := 3) (n := 3) hts inX6 (hts (Cond.instantiable "CardPort$Shop" 3) (List.mem_append_right _ (List.mem_of_getElem? (i := 99) (by decide +kernel))))
  obtain ⟨c8, i8, k8⟩ := u_known (C := RX7) (T := TX7) (N := 8) (n := 8) hts inX7 (hts (Cond.instantiable "CardPort" 8) (List.mem_append_right _ (List.mem_of_getElem? (i := 26) (by decide +kernel))))
  obtain ⟨c9, i9, k9⟩ := u_known (C := RX8) (T := TX8) (N := 25) (n := 25) hts inX8 (hts (Cond.instantiable "CardPortModel" 25) (List.mem_append_right _ (List.mem_of_getElem? (i := 701) (by decide +kernel))))
  obtain ⟨a0, h0, v0⟩ := arr_int (hts (Cond.arrayClass FieldType.int) (List.mem_append_right _ (List.mem_of_getElem? (i := 782) (by decide +kernel))))
  obtain ⟨a1, h1, v1⟩ := arr_long (hts (Cond.arrayClass FieldType.long) (List.mem_append_right _ (List.mem_of_getElem? (i := 784) (by decide +kernel))))
  obtain ⟨a2, h2, v2⟩ := arr_boolean (hts (Cond.arrayClass FieldType.boolean) (List.mem_append_right _ (List.mem_of_getElem? (i := 783) (by decide +kernel))))
  obtain ⟨a3, h3, v3⟩ := arr_ob (hts (Cond.arrayOver (FieldType.object "CardPort$Bank")) (List.mem_append_right _ (List.mem_of_getElem? (i := 34) (by decide +kernel))))
  obtain ⟨a4, h4, v4⟩ := arr_ob (hts (Cond.arrayOver (FieldType.object "CardPort$Kind")) (List.mem_append_right _ (List.mem_of_getElem? (i := 36) (by decide +kernel))))
  obtain ⟨a5, h5, v5⟩ := arr_ob (hts (Cond.arrayOver (FieldType.object "CardPort$Shop")) (List.mem_append_right _ (List.mem_of_getElem? (i := 38) (by decide +kernel))))
  obtain ⟨a6, h6, v6⟩ := arr_ob (hts (Cond.arrayOver (FieldType.object "CardPort$Card")) (List.mem_append_right _ (List.mem_of_getElem? (i := 40) (by decide +kernel))))
  obtain ⟨a7, h7, v7⟩ := arr_ob (hts (Cond.arrayOver (FieldType.object "java/lang/Object")) (List.mem_append_right _ (List.mem_of_getElem? (i := 435) (by decide +kernel))))
  refine ⟨(fun k => if k = 0 then c0 else if k = 1 then c1 else if k = 2 then c2 else if k = 3 then c3 else if k = 4 then c4 else if k = 5 then c5 else if k = 6 then c6 else if k = 7 then c7 else if k = 8 then c8 else c9, fun k => if k = 0 then i0 else if k = 1 then i1 else if k = 2 then i2 else if k = 3 then i3 else if k = 4 then i4 else if k = 5 then i5 else if k = 6 then i6 else if k = 7 then i7 else if k = 8 then i8 else i9), fun k => if k = 0 then a0 else if k = 1 then a1 else if k = 2 then a2 else if k = 3 then a3 else if k = 4 then a4 else if k = 5 then a5 else if k = 6 then a6 else a7, fun k x hx => ?_, fun k x hx => ?_⟩
  · match k, hx with
    | 0, hx => cases hx; exact k0
    | 1, hx => cases hx; exact k1
    | 2, hx => cases hx; exact k2
    | 3, hx => cases hx; exact k3
    | 4, hx => cases hx; exact k4
    | 5, hx => cases hx; exact k5
    | 6, hx => cases hx; exact k6
    | 7, hx => cases hx; exact k7
    | 8, hx => cases hx; exact k8
    | 9, hx => cases hx; exact k9
    | k + 10, hx => simp [vwCl] at hx
  · match k, hx with
    | 0, hx => cases hx; exact ⟨h0, v0⟩
    | 1, hx => cases hx; exact ⟨h1, v1⟩
    | 2, hx => cases hx; exact ⟨h2, v2⟩
    | 3, hx => cases hx; exact ⟨h3, v3⟩
    | 4, hx => cases hx; exact ⟨h4, v4⟩
    | 5, hx => cases hx; exact ⟨h5, v5⟩
    | 6, hx => cases hx; exact ⟨h6, v6⟩
    | 7, hx => cases hx; exact ⟨h7, v7⟩
    | k + 8, hx => simp [tyL] at hx
set_option maxHeartbeats 4000000 in
set_option maxRecDepth 100000 in
theorem st_cx {A : Array Value} {s : State} {Ad : Nat → Prop} (hts : ∀ w ∈ lw_tbl, w.before A s = true) (hgv : ∀ c ∈ flatC (Jvm.Cond.and given_1 narrow_1), c.before A s = true) (hA : ∀ a : Nat, a < s.heap.size → ¬ Ad a) : ∃ e0, cx Ad e0 s := by
  have t1 : ∀ x ∈ cxD, va_Nw (.declares x) s := List.forall_mem_cons.mpr ⟨va_Nw.of rfl (hts (Cond.declares ⟨"java/lang/Exception", "<init>", "(Ljava/lang/String;)V"⟩) (List.mem_append_right _ (List.mem_of_getElem? (i := 174) (by decide +kernel)))), List.forall_mem_cons.mpr ⟨va_Nw.of rfl (hts (Cond.declares ⟨"java/lang/RuntimeException", "<init>", "(Ljava/lang/String;)V"⟩) (List.mem_append_right _ (List.mem_of_getElem? (i := 172) (by decide +kernel)))), List.forall_mem_cons.mpr ⟨va_Nw.of rfl (hts (Cond.declares ⟨"java/lang/Throwable", "<init>", "(Ljava/lang/String;)V"⟩) (List.mem_append_right _ (List.mem_of_getElem? (i := 176) (by decide +kernel)))), fun _ h => absurd h List.not_mem_nil⟩⟩⟩
  have t2 : ∀ q ∈ cxC, va_Nw (.castable q.1 q.2) s := List.forall_mem_cons.mpr ⟨va_Nw.of rfl (hts (Cond.castable "java/lang/IndexOutOfBoundsException" "java/lang/IndexOutOfBoundsException") (List.mem_append_right _ (List.mem_of_getElem? (i := 170) (by decide +kernel)))), List.forall_mem_cons.mpr ⟨va_Nw.of rfl (hts (Cond.castable "java/lang/IllegalArgumentException" "java/lang/IllegalArgumentException") (List.mem_append_right _ (List.mem_of_getElem? (i := 254) (by decide +kernel)))), List.forall_mem_cons.mpr ⟨va_Nw.of rfl (hts (Cond.castable "java/lang/IllegalStateException" "java/lang/IllegalStateException") (List.mem_append_right _ (List.mem_of_getElem? (i := 304) (by decide +kernel)))), List.forall_mem_cons.mpr ⟨va_Nw.of rfl (cast_self (C := RX1) (hts (Cond.instantiable "CardPort$Capture" 5) (List.mem_append_right _ (List.mem_of_getElem? (i := 463) (by decide +kernel))))), List.forall_mem_cons.mpr ⟨va_Nw.of rfl (cast_self (C := RX3) (hts (Cond.instantiable "CardPort$Chargeback" 5) (List.mem_append_right _ (List.mem_of_getElem? (i := 536) (by decide +kernel))))), List.forall_mem_cons.mpr ⟨va_Nw.of rfl (cast_self (C := RX5) (hts (Cond.instantiable "CardPort$Payment" 7) (List.mem_append_right _ (List.mem_of_getElem? (i := 346) (by decide +kernel))))), List.forall_mem_cons.mpr ⟨va_Nw.of rfl (hts (Cond.castable "CardPort$Capture" "java/lang/Object") (List.mem_append_right _ (List.mem_of_getElem? (i := 959) (by decide +kernel)))), List.forall_mem_cons.mpr ⟨va_Nw.of rfl (hts (Cond.castable "CardPort$Chargeback" "java/lang/Object") (List.mem_append_right _ (List.mem_of_getElem? (i := 960) (by decide +kernel)))), List.forall_mem_cons.mpr ⟨va_Nw.of rfl (hts (Cond.castable "CardPort$Payment" "java/lang/Object") (List.mem_append_right _ (List.mem_of_getElem? (i := 958) (by decide +kernel)))), fun _ h => absurd h List.not_mem_nil⟩⟩⟩⟩⟩⟩⟩⟩⟩
  have t3 : ∀ q ∈ cxN, va_Nc q.1 q.2 s := List.forall_mem_cons.mpr ⟨va_Nc.of (hgv (Cond.not (Cond.castable "java/lang/IllegalArgumentException" "java/lang/IndexOutOfBoundsException")) (by decide +kernel)), List.forall_mem_cons.mpr ⟨va_Nc.of (hgv (Cond.not (Cond.castable "java/lang/IllegalStateException" "java/lang/IndexOutOfBoundsException")) (by decide +kernel)), List.forall_mem_cons.mpr ⟨va_Nc.of (hgv (Cond.not (Cond.castable "java/lang/IllegalStateException" "java/lang/IllegalArgumentException")) (by decide +kernel)), fun _ h => absurd h List.not_mem_nil⟩⟩⟩
  have t4 : va_Nw (.methodLinkNest RX7 50 yX0_init RX7) s := va_Nw.of rfl (hts (Cond.methodLinkNest "CardPort" 50 ⟨"CardPort$Bank", "<init>", "()V"⟩ "CardPort") (List.mem_append_right _ (List.mem_of_getElem? (i := 68) (by decide +kernel))))
  have t5 : ∀ q ∈ cxO, va_AO q s := List.forall_mem_cons.mpr ⟨va_AO.of (hts (Cond.arrayOver (FieldType.object "CardPort$Bank")) (List.mem_append_right _ (List.mem_of_getElem? (i := 34) (by decide +kernel)))), List.forall_mem_cons.mpr ⟨va_AO.of (hts (Cond.arrayOver (FieldType.object "CardPort$Kind")) (List.mem_append_right _ (List.mem_of_getElem? (i := 36) (by decide +kernel)))), List.forall_mem_cons.mpr ⟨va_AO.of (hts (Cond.arrayOver (FieldType.object "CardPort$Shop")) (List.mem_append_right _ (List.mem_of_getElem? (i := 38) (by decide +kernel)))), List.forall_mem_cons.mpr ⟨va_AO.of (hts (Cond.arrayOver (FieldType.object "CardPort$Card")) (List.mem_append_right _ (List.mem_of_getElem? (i := 40) (by decide +kernel)))), List.forall_mem_cons.mpr ⟨va_AO.of (hts (Cond.arrayOver (FieldType.object "java/lang/Object")) (List.mem_append_right _ (List.mem_of_getElem? (i := 435) (by decide +kernel)))), fun _ h => absurd h List.not_mem_nil⟩⟩⟩⟩⟩
  have t6 : ∀ q ∈ cxS, ∃ sa, vk_R RX7 q.1 q.2 sa s := List.forall_mem_cons.mpr ⟨str_R (hts (Cond.stringRef "CardPort" 215 "what is out of range") (List.mem_append_right _ (List.mem_of_getElem? (i := 621) (by decide +kernel)))) (hgv (Cond.exactly (Term.string "CardPort" 215) "java/lang/String") (by decide +kernel)), List.forall_mem_cons.mpr ⟨str_R (hts (Cond.stringRef "CardPort" 249 "rank is below 0") (List.mem_append_right _ (List.mem_of_getElem? (i := 679) (by decide +kernel)))) (hgv (Cond.exactly (Term.string "CardPort" 249) "java/lang/String") (by decide +kernel)), List.forall_mem_cons.mpr ⟨str_R (hts (Cond.stringRef "CardPort" 259 "no such bank") (List.mem_append_right _ (List.mem_of_getElem? (i := 654) (by decide +kernel)))) (hgv (Cond.exactly (Term.string "CardPort" 259) "java/lang/String") (by decide +kernel)), List.forall_mem_cons.mpr ⟨str_R (hts (Cond.stringRef "CardPort" 261 "no such kind") (List.mem_append_right _ (List.mem_of_getElem? (i := 240) (by decide +kernel)))) (hgv (Cond.exactly (Term.string "CardPort" 261) "java/lang/String") (by decide +kernel)), List.forall_mem_cons.mpr ⟨str_R (hts (Cond.stringRef "CardPort" 263 "no such shop") (List.mem_append_right _ (List.mem_of_getElem? (i := 209) (by decide +kernel)))) (hgv (Cond.exactly (Term.string "CardPort" 263) "java/lang/String") (by decide +kernel)), List.forall_mem_cons.mpr ⟨str_R (hts (Cond.stringRef "CardPort" 265 "no such card") (List.mem_append_right _ (List.mem_of_getElem? (i := 287) (by decide +kernel)))) (hgv (Cond.exactly (Term.string "CardPort" 265) "java/lang/String") (by decide +kernel)), List.forall_mem_cons.mpr ⟨str_R (hts (Cond.stringRef "CardPort" 267 "no such payment") (List.mem_append_right _ (List.mem_of_getElem? (i := 454) (by decide +kernel)))) (hgv (Cond.exactly (Term.string "CardPort" 267) "java/lang/String") (by decide +kernel)), List.forall_mem_cons.mpr ⟨str_R (hts (Cond.stringRef "CardPort" 269 "no such capture") (List.mem_append_right _ (List.mem_of_getElem? (i := 523) (by decide +kernel)))) (hgv (Cond.exactly (Term.string "CardPort" 269) "java/lang/String") (by decide +kernel)), List.forall_mem_cons.mpr ⟨str_R (hts (Cond.stringRef "CardPort" 271 "no such chargeback") (List.mem_append_right _ (List.mem_of_getElem? (i := 573) (by decide +kernel)))) (hgv (Cond.exactly (Term.string "CardPort" 271) "java/lang/String") (by decide +kernel)), List.forall_mem_cons.mpr ⟨str_R (hts (Cond.stringRef "CardPort" 273 "out of range") (List.mem_append_right _ (List.mem_of_getElem? (i := 261) (by decide +kernel)))) (hgv (Cond.exactly (Term.string "CardPort" 273) "java/lang/String") (by decide +kernel)), List.forall_mem_cons.mpr ⟨str_R (hts (Cond.stringRef "CardPort" 277 "not possible now") (List.mem_append_right _ (List.mem_of_getElem? (i := 311) (by decide +kernel)))) (hgv (Cond.exactly (Term.string "CardPort" 277) "java/lang/String") (by decide +kernel)), fun _ h => absurd h List.not_mem_nil⟩⟩⟩⟩⟩⟩⟩⟩⟩⟩⟩
  have t7 : va_Fw RJx4a65c lsSize yJx4a65c_size_8abf5 s := va_Fw.of (hts (Cond.declares ⟨"java/util/List", "size", "()I"⟩) (List.mem_append_right _ (List.mem_of_getElem? (i := 292) (by decide +kernel)))) (hts (Cond.interfaceMethod "java/util/List" "java/util/List" "size" "()I") (List.mem_append_right _ (List.mem_of_getElem? (i := 291) (by decide +kernel)))) (hts (Cond.publicMethod ⟨"java/util/ArrayList", "size", "()I"⟩) (List.mem_append_right _ (List.mem_of_getElem? (i := 297) (by decide +kernel)))) (hts (Cond.unhidden "java/util/ArrayList" "size" "()I") (List.mem_append_right _ (List.mem_of_getElem? (i := 295) (by decide +kernel)))) (hts (Cond.castable "java/util/ArrayList" "java/util/List") (List.mem_append_right _ (List.mem_of_getElem? (i := 293) (by decide +kernel))))
  have t8 : va_Fw RJx4a65c lsGet yJx4a65c_get_915e3 s := va_Fw.of (hts (Cond.declares ⟨"java/util/List", "get", "(I)Ljava/lang/Object;"⟩) (List.mem_append_right _ (List.mem_of_getElem? (i := 325) (by decide +kernel)))) (hts (Cond.interfaceMethod "java/util/List" "java/util/List" "get" "(I)Ljava/lang/Object;") (List.mem_append_right _ (List.mem_of_getElem? (i := 324) (by decide +kernel)))) (hts (Cond.publicMethod ⟨"java/util/ArrayList", "get", "(I)Ljava/lang/Object;"⟩) (List.mem_append_right _ (List.mem_of_getElem? (i := 329) (by decide +kernel)))) (hts (Cond.unhidden "java/util/ArrayList" "get" "(I)Ljava/lang/Object;") (List.mem_append_right _ (List.mem_of_getElem? (i := 327) (by decide +kernel)))) (hts (Cond.castable "java/util/ArrayList" "java/util/List") (List.mem_append_right _ (List.mem_of_getElem? (i := 293) (by decide +kernel))))
  have t9 : va_Fw RJx4a65c lsAdd yJx4a65c_add_9ea2d s := va_Fw.of (hts (Cond.declares ⟨"java/util/List", "add", "(Ljava/lang/Object;)Z"⟩) (List.mem_append_right _ (List.mem_of_getElem? (i := 385) (by decide +kernel)))) (hts (Cond.interfaceMethod "java/util/List" "java/util/List" "add" "(Ljava/lang/Object;)Z") (List.mem_append_right _ (List.mem_of_getElem? (i := 384) (by decide +kernel)))) (hts (Cond.publicMethod ⟨"java/util/ArrayList", "add", "(Ljava/lang/Object;)Z"⟩) (List.mem_append_right _ (List.mem_of_getElem? (i := 389) (by decide +kernel)))) (hts (Cond.unhidden "java/util/ArrayList" "add" "(Ljava/lang/Object;)Z") (List.mem_append_right _ (List.mem_of_getElem? (i := 387) (by decide +kernel)))) (hts (Cond.castable "java/util/ArrayList" "java/util/List") (List.mem_append_right _ (List.mem_of_getElem? (i := 293) (by decide +kernel))))
  have t10 : va_Dc s := va_Dc.of (hts (Cond.declares ⟨"java/lang/Object", "getClass", "()Ljava/lang/Class;"⟩) (List.mem_append_right _ (List.mem_of_getElem? (i := 965) (by decide +kernel))))
  obtain ⟨mi, t11⟩ := va_Mi.of (C := "[Ljava/lang/Object;") (hgv (Cond.isRef (.mirror "[Ljava/lang/Object;")) (by decide +kernel))
  have z1 := vx_Zqof (hts (Cond.laysStatic "java/lang/Throwable" "UNASSIGNED_STACK" "[Ljava/lang/StackTraceElement;") (List.mem_append_right _ (List.mem_of_getElem? (i := 195) (by decide +kernel)))) (hts (Cond.initialized "java/lang/Throwable") (List.mem_append_right _ (List.mem_of_getElem? (i := 10) (by decide +kernel)))) (hgv (Cond.isRef (.static "java/lang/Throwable" "UNASSIGNED_STACK" "[Ljava/lang/StackTraceElement;")) (by decide +kernel)) hA
  have z2 := vx_Zqof (hts (Cond.laysStatic "java/lang/Throwable" "SUPPRESSED_SENTINEL" "Ljava/util/List;") (List.mem_append_right _ (List.mem_of_getElem? (i := 197) (by decide +kernel)))) (hts (Cond.initialized "java/lang/Throwable") (List.mem_append_right _ (List.mem_of_getElem? (i := 10) (by decide +kernel)))) (hgv (Cond.isRef (.static "java/lang/Throwable" "SUPPRESSED_SENTINEL" "Ljava/util/List;")) (by decide +kernel)) hA
  obtain ⟨t, ht, hT⟩ := va_Tof (tm := (Term.static "java/util/ArrayList" "DEFAULTCAPACITY_EMPTY_ELEMENTDATA" "[Ljava/lang/Object;")) (ty := .object "java/lang/Object") (N := 0) (f := fun _ => .null) (by decide) (hgv (Cond.arrayOf (Term.static "java/util/ArrayList" "DEFAULTCAPACITY_EMPTY_ELEMENTDATA" "[Ljava/lang/Object;") (.object "java/lang/Object")) (by decide +kernel)) (va_eqt (hgv (Cond.eq (.length (Term.static "java/util/ArrayList" "DEFAULTCAPACITY_EMPTY_ELEMENTDATA" "[Ljava/lang/Object;")) (.int 0)) (by decide +kernel))) (fun j hj => absurd hj (Nat.not_lt_zero j)) hA
  have z3 := va_Zref (hts (Cond.laysStatic "java/util/ArrayList" "DEFAULTCAPACITY_EMPTY_ELEMENTDATA" "[Ljava/lang/Object;") (List.mem_append_right _ (List.mem_of_getElem? (i := 54) (by decide +kernel)))) (hts (Cond.initialized "java/util/ArrayList") (List.mem_append_right _ (List.mem_of_getElem? (i := 4) (by decide +kernel)))) ht hA
  exact ⟨(t, mi), ⟨t1, t2, t3, t4, t5, t6, t7, t8, t9, t10, t11⟩, z1, z2, z3, hT⟩
theorem wl_i1 : ∀ w ∈ wsL_law0_r1, w ∈ wsL_law := fun _ h => List.mem_append_left _ (List.mem_append_left _ (List.mem_append_left _ (List.mem_append_left _ (List.mem_append_left _ (List.mem_append_left _ (List.mem_append_left _ (List.mem_append_left _ (List.mem_append_left _ (List.mem_append_left _ (List.mem_append_left _ (List.mem_append_left _ (List.mem_append_left _ (List.mem_append_left _ (List.mem_append_left _ h))))))))))))))
theorem kwL_law_0 : Cond.classLink RL 8 RX7 ∈ wsL_law := wl_i1 _ (List.mem_of_getElem? (i := 0) rfl)
theorem kwL_law_1 : Cond.instantiable RX7 8 ∈ wsL_law := wl_i1 _ (List.mem_of_getElem? (i := 1) rfl)
theorem kwL_law_2 : Cond.initialized RX7 ∈ wsL_law := wl_i1 _ (List.mem_of_getElem? (i := 2) rfl)
theorem kwL_law_7 : Cond.methodLink RL 78 yX7_init ∈ wsL_law := wl_i1 _ (List.mem_of_getElem? (i := 7) rfl)
theorem kwL_law_8 : Cond.instanceMethod yX7_init ∈ wsL_law := wl_i1 _ (List.mem_of_getElem? (i := 8) rfl)
theorem kwL_law_3 : Cond.classLink RL 79 RX8 ∈ wsL_law := wl_i1 _ (List.mem_of_getElem? (i := 3) rfl)
theorem kwL_law_4 : Cond.instantiable RX8 25 ∈ wsL_law := wl_i1 _ (List.mem_of_getElem? (i := 4) rfl)
theorem kwL_law_5 : Cond.initialized RX8 ∈ wsL_law := wl_i1 _ (List.mem_of_getElem? (i := 5) rfl)
theorem kwL_law_4_4 : Cond.methodLink RL 81 yX8_init ∈ wsL_law := List.mem_append_left _ (List.mem_append_left _ (List.mem_append_left _ (List.mem_append_left _ (List.mem_append_left _ (List.mem_append_left _ (List.mem_append_left _ (List.mem_append_left _ (List.mem_append_left _ (List.mem_append_left _ (List.mem_append_left _ (List.mem_append_left _ (List.mem_append_left _ (List.mem_append_left _ (List.mem_append_right _ (List.mem_append_right _ (List.mem_append_right _ (List.mem_append_left _ (List.mem_of_getElem? (i := 4) rfl))))))))))))))))))
theorem kwL_law_4_5 : Cond.instanceMethod yX8_init ∈ wsL_law := List.mem_append_left _ (List.mem_append_left _ (List.mem_append_left _ (List.mem_append_left _ (List.mem_append_left _ (List.mem_append_left _ (List.mem_append_left _ (List.mem_append_left _ (List.mem_append_left _ (List.mem_append_left _ (List.mem_append_left _ (List.mem_append_left _ (List.mem_append_left _ (List.mem_append_left _ (List.mem_append_right _ (List.mem_append_right _ (List.mem_append_right _ (List.mem_append_left _ (List.mem_of_getElem? (i := 5) rfl))))))))))))))))))
theorem kwL_law_6 : Cond.arrayClass .long ∈ wsL_law := wl_i1 _ (List.mem_of_getElem? (i := 6) rfl)
set_option maxHeartbeats 4000000 in
set_option maxRecDepth 100000 in
theorem whole_start {p : Program} {e : Env} {s : State} {m : MethodId} {below : List Frame} {meth : Method} {c : Code} (l : Launch) (hflags : l.flags = flags0) {b L : Nat} {xs : Nat → Int32} (hL : L ≤ 2048) (C0 : lw_At p s m meth c b L xs) : W p l e room_1 s m #[Value.ref b] below meth c s.heap [] 0 0 (lw_Z below #[Value.ref b] s) (entryFrame m ([Value.ref b] : List Value).toArray 8) := by
  obtain ⟨hx, hb, hr, hml, hown, hts, hX, hbl, hlocks, hgv0⟩ := id C0
  have hgv := flat_of_before _ hgv0
  have hlt : l.stackTraces = false := by unfold Launch.stackTraces; rw [hflags]; decide +kernel
  obtain ⟨A, hAe⟩ : ∃ A : Nat → Prop, A = fun q => s.heap.size ≤ q := ⟨_, rfl⟩
  have hA : ∀ q, s.heap.size ≤ q → A q := fun q h => by rw [hAe]; exact h
  have hAn : ∀ q, A q → s.heap.size ≤ q := fun q h => by rw [hAe] at h; exact h
  have hAo : ∀ a : Nat, a < s.heap.size → ¬ A a := fun a h z => by have := hAn a z; omega
  have hbA := hAo b hbl
  obtain ⟨D, kc, hK⟩ := st_K hts
  obtain ⟨e0, hcx⟩ := st_cx hts hgv hAo
  have X : mX p s m #[Value.ref b] c cL_law 8 RL wsL_law D kc := ⟨⟨hx, hb, hml, hown, fun w hw => hts w (wsL_law_in w hw)⟩, hK⟩
  obtain ⟨M, hM⟩ : ∃ M : Mp, M = fun _ => none := ⟨_, rfl⟩
  have Y : mY D A M s s.heap [] := ⟨fun a e h => (by rw [hM] at h; cases h), va_S.rf⟩
  have hl := lv_entry ([.ref b]) (n := 8) (Nat.le_of_ble_eq_true rfl)
  rw [lg_entry_eq]
  generalize (lg_sl ([.ref b]) ++ List.replicate (8 - (lg_sl ([.ref b])).length) Slot.unset).toArray = ls at hl ⊢
  have hl : lv_has ls 8 [(0, .ref b)] := hl
  refine m_new (C := RX7) (T := TX7) (N := 8) (ci := 8) X Y hA inlX7 tyX7 tyX7_ok kwL_law_0 kwL_law_1 kwL_law_2 rfl (fs := [.null, .null, .null, .null, .null, .null, .null, .int 0]) (fun j hj => by rcases (show j = 0 ∨ j = 1 ∨ j = 2 ∨ j = 3 ∨ j = 4 ∨ j = 5 ∨ j = 6 ∨ j = 7 by omega) with rfl | rfl | rfl | rfl | rfl | rfl | rfl | rfl <;> rfl) (by decide) (by decide) dL_law_0 (fun q1 H fq1 Y => ?_)
  obtain ⟨M2, eM2⟩ : ∃ zz9 : Mp, zz9 = mu M q1 (.inr (8, [.null, .null, .null, .null, .null, .null, .null, .int 0])) := ⟨_, rfl⟩
  have Y : mY D A M2 s H [] := by rw [eM2]; exact Y
  have hh3 : M2 q1 = some (.inr (8, [.null, .null, .null, .null, .null, .null, .null, .int 0])) := by rw [eM2]; exact mu_self _ _ _
  refine lv_dup hx hb dL_law_3 rfl ?_
  refine m_Iv (As := []) (rest := [.ref q1]) X Y hA hcx (c_X7_init l D kc A e0 M2 q1 0 hh3) (cwI 0 X.1.2.2.2.2 gL_law_X7_init rfl rfl rfl (X.1.2.2.2.2 _ kwL_law_2) (X.1.2.2.2.2 _ kwL_law_7) (X.1.2.2.2.2 _ kwL_law_8) rfl (by decide +kernel) ⟨Nat.le_of_ble_eq_true rfl, Nat.le_of_ble_eq_true rfl⟩) rfl rfl hl.1 (Nat.le_of_ble_eq_true rfl) dL_law_4 ⟨by decide, by decide⟩ (fun M4 H locs p5 Y => ?_)
  obtain ⟨ad, hPI, had7, hKP1⟩ := p5
  refine lv_astore_n (lv' := [(1, .ref q1), (0, .ref b)]) hx hb dL_law_7 rfl hl (by decide) rfl (fun ls hl => ?_)
  refine m_new (C := RX8) (T := TX8) (N := 25) (ci := 9) X Y hA inlX8 tyX8 tyX8_ok kwL_law_3 kwL_law_4 kwL_law_5 rfl (fs := [.int 0, .null, .null, .null, .int 0, .null, .null, .null, .null, .null, .null, .int 0, .null, .null, .null, .null, .int 0, .null, .null, .null, .null, .int 0, .null, .null, .int 0]) (fun j hj => by rcases (show j = 0 ∨ j = 1 ∨ j = 2 ∨ j = 3 ∨ j = 4 ∨ j = 5 ∨ j = 6 ∨ j = 7 ∨ j = 8 ∨ j = 9 ∨ j = 10 ∨ j = 11 ∨ j = 12 ∨ j = 13 ∨ j = 14 ∨ j = 15 ∨ j = 16 ∨ j = 17 ∨ j = 18 ∨ j = 19 ∨ j = 20 ∨ j = 21 ∨ j = 22 ∨ j = 23 ∨ j = 24 by omega) with rfl | rfl | rfl | rfl | rfl | rfl | rfl | rfl | rfl | rfl | rfl | rfl | rfl | rfl | rfl | rfl | rfl | rfl | rfl | rfl | rfl | rfl | rfl | rfl | rfl <;> rfl) (by decide) (by decide) dL_law_8 (fun q6 H fq6 Y => ?_)
  obtain ⟨M7, eM7⟩ : ∃ zz9 : Mp, zz9 = mu M4 q6 (.inr (9, [.int 0, .null, .null, .null, .int 0, .null, .null, .null, .null, .null, .null, .int 0, .null, .null, .null, .null, .int 0, .null, .null, .null, .null, .int 0, .null, .null, .int 0])) := ⟨_, rfl⟩
  have Y : mY D A M7 s H locs := by rw [eM7]; exact Y
  have hh8 : M7 q6 = some (.inr (9, [.int 0, .null, .null, .null, .int 0, .null, .null, .null, .null, .null, .null, .int 0, .null, .null, .null, .null, .int 0, .null, .null, .null, .null, .int 0, .null, .null, .int 0])) := by rw [eM7]; exact mu_self _ _ _
  refine lv_dup hx hb dL_law_11 rfl ?_
  refine m_Iv (As := []) (rest := [.ref q6]) X Y hA hcx (c_X8_init l D kc A e0 M7 q6 hh8) (cwI 0 X.1.2.2.2.2 gL_law_X8_init rfl rfl rfl (X.1.2.2.2.2 _ kwL_law_5) (X.1.2.2.2.2 _ kwL_law_4_4) (X.1.2.2.2.2 _ kwL_law_4_5) rfl (by decide +kernel) ⟨Nat.le_of_ble_eq_true rfl, Nat.le_of_ble_eq_true rfl⟩) rfl rfl hl.1 (Nat.le_of_ble_eq_true rfl) dL_law_12 ⟨by decide, by decide⟩ (fun M9 H locs p10 Y => ?_)
  obtain ⟨adm, hob, har, hfr, hinj, hKP2⟩ := p10
  refine lv_astore_n (lv' := [(2, .ref q6), (1, .ref q1), (0, .ref b)]) hx hb dL_law_15 rfl hl (by decide) rfl (fun ls hl => ?_)
  refine n_iconst hx hb 1 dL_law_16 (by decide) ?_
  refine m_newa (atype := .long) X Y hA 1 rfl rfl kwL_law_6 1 (1, .inr (.inl (fun _ => 0))) (fun _ => rfl) (by decide) (by decide) (by decide) (by decide) (by decide) dL_law_17 (fun q11 H fq11 Y => ?_)
  obtain ⟨M12, eM12⟩ : ∃ zz9 : Mp, zz9 = mu M9 q11 (lrow (kc 1) 1 (fun _ => 0)) := ⟨_, rfl⟩
  have Y : mY D A M12 s H locs := by rw [eM12]; exact Y
  have hh13 : M12 q11 = some (lrow (kc 1) 1 (fun _ => 0)) := by rw [eM12]; exact mu_self _ _ _
  refine lv_astore_n (lv' := [(3, .ref q11), (2, .ref q6), (1, .ref q1), (0, .ref b)]) hx hb dL_law_19 rfl hl (by decide) rfl (fun ls hl => ?_)
  refine n_iconst hx hb 0 dL_law_20 (by decide) ?_
  refine lv_istore (lv' := [(4, .int (nI 0)), (3, .ref q11), (2, .ref q6), (1, .ref q1), (0, .ref b)]) hx hb dL_law_21 hl (by decide) rfl (fun ls hl => ?_)
  obtain ⟨g, hG, e7, e11, e13⟩ := G.join (hPI.G rfl rfl rfl rfl sg0 0 0) fq6 eM7 hob har hfr hinj hKP2 fq11 eM12
  have hl := lv_sub hl [0, 1, 2, 3, 4] rfl
  exact law_loop hlt X hA hAn hcx hX hbl hbA hL hr hlocks 512 0 rfl (Nat.zero_le L) sg0 0 0 g M12 H locs ls _ _ (by decide) (by decide) hG WF_0 Y (by show lv_has ls 8 [(4, .int (nI (4 * 0))), (3, .ref (g.1 13 0)), (2, .ref (g.1 11 0)), (1, .ref (g.1 7 0)), (0, .ref b)]; rw [e13, e11, e7, had7]; exact hl)
