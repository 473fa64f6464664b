/-! ===== what the tables say at the law's start ===== -/
set_option maxRecDepth 20000 in
theorem in_xnests : ∀ w ∈ xnests, w ∈ lw_tbl := in_r _ [73, 87, 112, 147, 152, 174, 497, 539, 627, 733, 782, 783] (by decide +kernel)
theorem xnests_tab : xnests.all (fun x => x.onTables) = true := by decide +kernel
set_option maxRecDepth 20000 in
theorem in_xext : ∀ w ∈ xext, w ∈ lw_tbl := in_r _ [467, 468, 405, 381, 461, 56, 473, 378, 404, 379, 396, 408, 388] (by decide +kernel)
set_option maxHeartbeats 4000000 in
set_option maxRecDepth 100000 in
theorem env_nc {s : State} {b : Nat} (hgv : (Jvm.Cond.and given_1 narrow_1).before #[Value.ref b] s = true) : ∀ q ∈ xnocast, va_Nc q.1 q.2 s := by
  have hs := flat_of_before _ hgv
  intro q hq
  simp only [xnocast, List.mem_cons, List.not_mem_nil, or_false] at hq
  rcases hq with rfl | rfl | rfl | rfl | rfl | rfl | rfl | rfl | rfl | rfl | rfl | rfl | rfl | rfl | rfl
  · exact va_Nc.of (hs (.not (.castable "LentQuill$Person" "LentQuill$Bishop")) (by decide +kernel))
  · exact va_Nc.of (hs (.not (.castable "LentQuill$Person" "LentQuill$Thief")) (by decide +kernel))
  · exact va_Nc.of (hs (.not (.castable "LentQuill$Person" "LentQuill$Boy")) (by decide +kernel))
  · exact va_Nc.of (hs (.not (.castable "LentQuill$Person" "LentQuill$Abbot")) (by decide +kernel))
  · exact va_Nc.of (hs (.not (.castable "LentQuill$Bishop" "LentQuill$Thief")) (by decide +kernel))
  · exact va_Nc.of (hs (.not (.castable "LentQuill$Bishop" "LentQuill$Boy")) (by decide +kernel))
  · exact va_Nc.of (hs (.not (.castable "LentQuill$Bishop" "LentQuill$Abbot")) (by decide +kernel))
  · exact va_Nc.of (hs (.not (.castable "LentQuill$Thief" "LentQuill$Bishop")) (by decide +kernel))
  · exact va_Nc.of (hs (.not (.castable "LentQuill$Thief" "LentQuill$Boy")) (by decide +kernel))
  · exact va_Nc.of (hs (.not (.castable "LentQuill$Thief" "LentQuill$Abbot")) (by decide +kernel))
  · exact va_Nc.of (hs (.not (.castable "LentQuill$Boy" "LentQuill$Bishop")) (by decide +kernel))
  · exact va_Nc.of (hs (.not (.castable "LentQuill$Boy" "LentQuill$Thief")) (by decide +kernel))
  · exact va_Nc.of (hs (.not (.castable "LentQuill$Boy" "LentQuill$Abbot")) (by decide +kernel))
  · exact va_Nc.of (hs (.not (.castable "LentQuill$Abbot" "LentQuill$Thief")) (by decide +kernel))
  · exact va_Nc.of (hs (.not (.castable "LentQuill$Abbot" "LentQuill$Boy")) (by decide +kernel))
set_option maxHeartbeats 4000000 in
set_option maxRecDepth 100000 in
theorem env_str {s : State} {b : Nat} (hts : ∀ w ∈ lw_tbl, w.before #[Value.ref b] s = true) (hgv : (Jvm.Cond.and given_1 narrow_1).before #[Value.ref b] s = true) : ∃ aS aV : Nat, (vk_R "LentQuill$Page" 34 "pbtya" aS s ∧ vk_R "LentQuill$Town" 43 "pbtya" aS s) ∧ va_O "java/lang/String" aS (fun q => s.heap.size ≤ q) s s.heap ∧ va_OF "java/lang/String" "coder" "B" (.int 0) aS (fun q => s.heap.size ≤ q) s s.heap ∧ va_OF "java/lang/String" "value" "[B" (.ref aV) aS (fun q => s.heap.size ≤ q) s s.heap ∧ va_T .byte aV 5 (fun j => .int (nI (ltr j))) (fun q => s.heap.size ≤ q) s s.heap ∧ va_Z "java/lang/String" "COMPACT_STRINGS" "Z" (.int 1) (fun q => s.heap.size ≤ q) s s.heap := by
  have hs := flat_of_before _ hgv
  have hA : ∀ a : Nat, a < s.heap.size → ¬ (fun q : Nat => s.heap.size ≤ q) a := fun a h => Nat.not_le.mpr h
  have n1 : ∀ i : Nat, i < 1 → i = 0 := fun i h => by omega
  obtain ⟨adK, adV, ⟨h1, -⟩, h2⟩ := vk_Sof (args := #[Value.ref b]) (s := s) (N := 1) (tm := fun _ => .string "LentQuill$Page" 34) (len := [5]) (byt := [[112, 98, 116, 121, 97]]) (A := fun q : Nat => s.heap.size ≤ q)
    (fun i hi => by rw [n1 i hi]; decide)
    (fun i hi => hs _ (by decide +kernel))
    (fun i hi => hs _ (by decide +kernel))
    (fun i hi => hs _ (by decide +kernel))
    (fun i hi => by rw [n1 i hi]; exact hs _ (by decide +kernel))
    (fun i hi j hj => by
      rw [n1 i hi] at hj ⊢
      have hj : j < 5 := hj
      rcases (show j = 0 ∨ j = 1 ∨ j = 2 ∨ j = 3 ∨ j = 4 by omega) with rfl | rfl | rfl | rfl | rfl
      · exact hs _ (by decide +kernel)
      · exact hs _ (by decide +kernel)
      · exact hs _ (by decide +kernel)
      · exact hs _ (by decide +kernel)
      · exact hs _ (by decide +kernel))
    (fun i j hi hj hne => absurd ((n1 i hi).trans (n1 j hj).symm) hne) hA
  obtain ⟨o1, o2, o3, o4⟩ := h1 0 (by omega)
  have e1 := h2 0 (by omega)
  have e2 : (Term.string "LentQuill$Town" 43).eval #[Value.ref b] s none [] s = some (.ref (adK 0)) := va_eqR (hs (.eq (.string "LentQuill$Page" 34) (.string "LentQuill$Town" 43)) (by decide +kernel)) e1
  refine ⟨adK 0, adV 0, ⟨vk_R.of (hts (.stringRef "LentQuill$Page" 34 "pbtya") (List.mem_of_getElem? (i := 260) (by decide +kernel))) e1, vk_R.of (hts (.stringRef "LentQuill$Town" 43 "pbtya") (List.mem_of_getElem? (i := 367) (by decide +kernel))) e2⟩, o1, o2, o3, ?_, va_Zof (hts (.laysStatic "java/lang/String" "COMPACT_STRINGS" "Z") (List.mem_of_getElem? (i := 274) (by decide +kernel))) (hts (.initialized "java/lang/String") (List.mem_of_getElem? (i := 50) (by decide +kernel))) (va_eqt (hs (.eq (.static "java/lang/String" "COMPACT_STRINGS" "Z") (.int 1)) (by decide +kernel))) hA⟩
  obtain ⟨cell, t1, t2, t3, t4, t5, t6, t7⟩ := o4
  refine ⟨cell, t1, t2, t3, t4, t5, fun j hj => ?_, t7⟩
  have hj : j < 5 := hj
  rw [t6 j hj]
  rcases (show j = 0 ∨ j = 1 ∨ j = 2 ∨ j = 3 ∨ j = 4 by omega) with rfl | rfl | rfl | rfl | rfl <;> rfl
set_option maxHeartbeats 4000000 in
set_option maxRecDepth 100000 in
theorem env_all {s : State} {b : Nat} (hts : ∀ w ∈ lw_tbl, w.before #[Value.ref b] s = true) (hgv : (Jvm.Cond.and given_1 narrow_1).before #[Value.ref b] s = true) : ∃ G : XG, GK G s ∧ SK s.heap.size G s s.heap := by
  obtain ⟨c0, i0, hK0⟩ := u_known (C := RX0) (T := TX0) (N := 1) (n := 1) hts in_wsX00 (hts (.instantiable RX0 1) (List.mem_of_getElem? (i := 399) (by decide +kernel)))
  obtain ⟨c1, i1, hK1⟩ := u_known (C := RX1) (T := TX1) (N := 1) (n := 1) hts in_wsX10 (hts (.instantiable RX1 1) (List.mem_of_getElem? (i := 370) (by decide +kernel)))
  obtain ⟨c2, i2, hK2⟩ := u_known (C := RX2) (T := TX2) (N := 7) (n := 7) hts in_wsX20 (hts (.instantiable RX2 7) (List.mem_of_getElem? (i := 104) (by decide +kernel)))
  obtain ⟨c3, i3, hK3⟩ := u_known (C := RX3) (T := TX3) (N := 1) (n := 1) hts in_wsX30 (hts (.instantiable RX3 1) (List.mem_of_getElem? (i := 391) (by decide +kernel)))
  obtain ⟨c4, i4, hK4⟩ := u_known (C := RX4) (T := TX4) (N := 4) (n := 4) hts in_wsX40 (hts (.instantiable RX4 4) (List.mem_of_getElem? (i := 173) (by decide +kernel)))
  obtain ⟨c5, i5, hK5⟩ := u_known (C := RX5) (T := TX5) (N := 2) (n := 2) hts in_wsX50 (hts (.instantiable RX5 2) (List.mem_of_getElem? (i := 72) (by decide +kernel)))
  obtain ⟨c6, i6, hK6⟩ := u_known (C := RX6) (T := TX6) (N := 2) (n := 2) hts in_wsX60 (hts (.instantiable RX6 2) (List.mem_of_getElem? (i := 111) (by decide +kernel)))
  obtain ⟨c7, i7, hK7⟩ := u_known (C := RX7) (T := TX7) (N := 1) (n := 1) hts in_wsX70 (hts (.instantiable RX7 1) (List.mem_of_getElem? (i := 406) (by decide +kernel)))
  obtain ⟨c8, i8, hK8⟩ := u_known (C := RX8) (T := TX8) (N := 6) (n := 6) hts in_wsX80 (hts (.instantiable RX8 6) (List.mem_of_getElem? (i := 146) (by decide +kernel)))
  obtain ⟨c9, i9, hK9⟩ := u_known (C := RX9) (T := TX9) (N := 1) (n := 1) hts in_wsX90 (hts (.instantiable RX9 1) (List.mem_of_getElem? (i := 383) (by decide +kernel)))
  obtain ⟨c10, i10, hK10⟩ := u_known (C := RX10) (T := TX10) (N := 3) (n := 3) hts in_wsX100 (hts (.instantiable RX10 3) (List.mem_of_getElem? (i := 86) (by decide +kernel)))
  obtain ⟨c11, i11, hK11⟩ := u_known (C := RX11) (T := TX11) (N := 9) (n := 9) hts in_wsX110 (hts (.instantiable RX11 9) (List.mem_of_getElem? (i := 64) (by decide +kernel)))
  obtain ⟨c12, i12, hK12⟩ := u_known (C := RX12) (T := TX12) (N := 37) (n := 37) hts in_wsX120 (hts (.instantiable RX12 37) (List.mem_of_getElem? (i := 844) (by decide +kernel)))
  obtain ⟨aS, aV, hstr⟩ := env_str hts hgv
  obtain ⟨cI, kI, pI, f1, f2, f3⟩ := Cond.arrayClass_spec (hts (.arrayClass .int) (List.mem_of_getElem? (i := 84) (by decide +kernel)))
  obtain ⟨cB, kB, pB, g1, g2, g3⟩ := Cond.arrayClass_spec (hts (.arrayClass .byte) (List.mem_of_getElem? (i := 347) (by decide +kernel)))
  obtain ⟨pP, cP, kP, p1, p2, p3, p4, p5⟩ := Cond.arrayOver_spec (hts (.arrayOver (.object "LentQuill$Person")) (List.mem_of_getElem? (i := 92) (by decide +kernel)))
  obtain ⟨pN, cN, kN9, n1, n2, n3, n4, n5⟩ := Cond.arrayOver_spec (hts (.arrayOver (.object "LentQuill$Pen")) (List.mem_of_getElem? (i := 110) (by decide +kernel)))
  have hcl : ∀ (k : Nat) (q : vw_C), vwCl[k]? = some q → u_Kn s q.1 q.2.1 q.2.2 (([c0, c1, c2, c3, c4, c5, c6, c7, c8, c9, c10, c11, c12] : List ClassId).getD k c0) (([i0, i1, i2, i3, i4, i5, i6, i7, i8, i9, i10, i11, i12] : List (Nat → Nat)).getD k i0) := by
    intro k q hq
    have hk : k < 13 := (List.getElem?_eq_some_iff.mp hq).1
    rcases (show k = 0 ∨ k = 1 ∨ k = 2 ∨ k = 3 ∨ k = 4 ∨ k = 5 ∨ k = 6 ∨ k = 7 ∨ k = 8 ∨ k = 9 ∨ k = 10 ∨ k = 11 ∨ k = 12 by omega) with rfl | rfl | rfl | rfl | rfl | rfl | rfl | rfl | rfl | rfl | rfl | rfl | rfl
    · cases hq; exact hK0
    · cases hq; exact hK1
    · cases hq; exact hK2
    · cases hq; exact hK3
    · cases hq; exact hK4
    · cases hq; exact hK5
    · cases hq; exact hK6
    · cases hq; exact hK7
    · cases hq; exact hK8
    · cases hq; exact hK9
    · cases hq; exact hK10
    · cases hq; exact hK11
    · cases hq; exact hK12
  have hKK : va_K ((fun k => ([c0, c1, c2, c3, c4, c5, c6, c7, c8, c9, c10, c11, c12] : List ClassId).getD k c0), (fun k => ([i0, i1, i2, i3, i4, i5, i6, i7, i8, i9, i10, i11, i12] : List (Nat → Nat)).getD k i0)) vwCl [(cI, .int), (cB, .byte), (cP, .object "LentQuill$Person"), (cN, .object "LentQuill$Pen")] s := by
    refine ⟨hcl, fun k q hq => ?_⟩
    have hk : k < 4 := (List.getElem?_eq_some_iff.mp hq).1
    rcases (show k = 0 ∨ k = 1 ∨ k = 2 ∨ k = 3 by omega) with rfl | rfl | rfl | rfl
    · cases hq; exact ⟨fun n z => ⟨fun k h => (by cases h), kI, f2, pI, f3⟩, f1⟩
    · cases hq; exact ⟨fun n z => ⟨fun k h => (by cases h), kB, g2, pB, g3⟩, g1⟩
    · cases hq; exact ⟨fun n z => ⟨fun k h => (by cases h), kP, p3, pP, p4⟩, kP, pP, p3, p4, p1, p5⟩
    · cases hq; exact ⟨fun n z => ⟨fun k h => (by cases h), kN9, n3, pN, n4⟩, kN9, pN, n3, n4, n1, n5⟩
  have hN : ∀ x ∈ xnests, va_Nw x s := fun x hx => va_Nw.of (List.all_eq_true.mp xnests_tab x hx) (hts x (in_xnests x hx))
  exact ⟨(((fun k => ([c0, c1, c2, c3, c4, c5, c6, c7, c8, c9, c10, c11, c12] : List ClassId).getD k c0), (fun k => ([i0, i1, i2, i3, i4, i5, i6, i7, i8, i9, i10, i11, i12] : List (Nat → Nat)).getD k i0)), cI, cB, cP, cN, aS, aV), ⟨hKK, hN, ⟨hKK, hN, env_nc hgv, va_Nw.of rfl (hts (.castable "LentQuill$Abbot" "LentQuill$Bishop") (List.mem_of_getElem? (i := 1207) (by decide +kernel))), va_AO.of (hts (.arrayOver (.object "LentQuill$Person")) (List.mem_of_getElem? (i := 92) (by decide +kernel))), va_AO.of (hts (.arrayOver (.object "LentQuill$Pen")) (List.mem_of_getElem? (i := 110) (by decide +kernel))), va_Nw.of rfl (hts (.castable "LentQuill$Bishop" "LentQuill$Person") (List.mem_of_getElem? (i := 1208) (by decide +kernel))), va_Nw.of rfl (hts (.castable "LentQuill$Thief" "LentQuill$Person") (List.mem_of_getElem? (i := 1209) (by decide +kernel))), va_Nw.of rfl (hts (.castable "LentQuill$Boy" "LentQuill$Person") (List.mem_of_getElem? (i := 1210) (by decide +kernel))), va_Nw.of rfl (hts (.castable "LentQuill$Abbot" "LentQuill$Person") (List.mem_of_getElem? (i := 1211) (by decide +kernel)))⟩, fun x hx A => va_tabs (List.all_eq_true.mp xext_tab x hx) rfl (hts x (in_xext x hx))⟩, hstr⟩
