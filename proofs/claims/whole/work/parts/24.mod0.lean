/-! ===== the reference's object ===== -/
/-- the object's cell, its arrays, in the order of their making -/
def MW (G : XG) (w : Wd) (M0 : Nat) (V : Nat → Value) (A : Nat → Nat → Int32) : Prop := w M0 = some (eO 12 (mfl V)) ∧ (V 3 = .ref (M0 + 1) ∧ V 4 = .ref (M0 + 2) ∧ V 5 = .ref (M0 + 3) ∧ V 6 = .ref (M0 + 4) ∧ V 8 = .ref (M0 + 5) ∧ V 9 = .ref (M0 + 6) ∧ V 11 = .ref (M0 + 7) ∧ V 12 = .ref (M0 + 8) ∧ V 15 = .ref (M0 + 9) ∧ V 18 = .ref (M0 + 10) ∧ V 19 = .ref (M0 + 11) ∧ V 20 = .ref (M0 + 12) ∧ V 24 = .ref (M0 + 13) ∧ V 30 = .ref (M0 + 14) ∧ V 31 = .ref (M0 + 15) ∧ V 32 = .ref (M0 + 16) ∧ V 33 = .ref (M0 + 17) ∧ V 34 = .ref (M0 + 18) ∧ V 35 = .ref (M0 + 19)) ∧ w (M0 + 1) = some (eI G 5 (A 1)) ∧ w (M0 + 2) = some (eI G 5 (A 2)) ∧ w (M0 + 3) = some (eI G 205 (A 3)) ∧ w (M0 + 4) = some (eI G 5 (A 4)) ∧ w (M0 + 5) = some (eI G 6 (A 5)) ∧ w (M0 + 6) = some (eI G 6 (A 6)) ∧ w (M0 + 7) = some (eI G 6 (A 7)) ∧ w (M0 + 8) = some (eI G 6 (A 8)) ∧ w (M0 + 9) = some (eB G 18 (A 9)) ∧ w (M0 + 10) = some (eI G 25 (A 10)) ∧ w (M0 + 11) = some (eI G 5 (A 11)) ∧ w (M0 + 12) = some (eI G 5 (A 12)) ∧ w (M0 + 13) = some (eI G 5 (A 13)) ∧ w (M0 + 14) = some (eI G 205 (A 14)) ∧ w (M0 + 15) = some (eI G 5 (A 15)) ∧ w (M0 + 16) = some (eI G 6 (A 16)) ∧ w (M0 + 17) = some (eI G 6 (A 17)) ∧ w (M0 + 18) = some (eI G 6 (A 18)) ∧ w (M0 + 19) = some (eI G 6 (A 19))
theorem MW.a1 {G : XG} {w : Wd} {M0 : Nat} {V : Nat → Value} {A : Nat → Nat → Int32} (hM : MW G w M0 V A) (f : Nat → Int32) : MW G (wu w (M0 + 1) (eI G 5 f)) M0 V (va_up A 1 f) := by
  obtain ⟨hm0, ⟨hv3, hv4, hv5, hv6, hv8, hv9, hv11, hv12, hv15, hv18, hv19, hv20, hv24, hv30, hv31, hv32, hv33, hv34, hv35⟩, ha1, ha2, ha3, ha4, ha5, ha6, ha7, ha8, ha9, ha10, ha11, ha12, ha13, ha14, ha15, ha16, ha17, ha18, ha19⟩ := id hM
  exact ⟨(wu_nq (by omega)).trans hm0, ⟨hv3, hv4, hv5, hv6, hv8, hv9, hv11, hv12, hv15, hv18, hv19, hv20, hv24, hv30, hv31, hv32, hv33, hv34, hv35⟩, wu_eq _ _ _, (wu_nq (by omega)).trans ha2, (wu_nq (by omega)).trans ha3, (wu_nq (by omega)).trans ha4, (wu_nq (by omega)).trans ha5, (wu_nq (by omega)).trans ha6, (wu_nq (by omega)).trans ha7, (wu_nq (by omega)).trans ha8, (wu_nq (by omega)).trans ha9, (wu_nq (by omega)).trans ha10, (wu_nq (by omega)).trans ha11, (wu_nq (by omega)).trans ha12, (wu_nq (by omega)).trans ha13, (wu_nq (by omega)).trans ha14, (wu_nq (by omega)).trans ha15, (wu_nq (by omega)).trans ha16, (wu_nq (by omega)).trans ha17, (wu_nq (by omega)).trans ha18, (wu_nq (by omega)).trans ha19⟩
theorem MW.a2 {G : XG} {w : Wd} {M0 : Nat} {V : Nat → Value} {A : Nat → Nat → Int32} (hM : MW G w M0 V A) (f : Nat → Int32) : MW G (wu w (M0 + 2) (eI G 5 f)) M0 V (va_up A 2 f) := by
  obtain ⟨hm0, ⟨hv3, hv4, hv5, hv6, hv8, hv9, hv11, hv12, hv15, hv18, hv19, hv20, hv24, hv30, hv31, hv32, hv33, hv34, hv35⟩, ha1, ha2, ha3, ha4, ha5, ha6, ha7, ha8, ha9, ha10, ha11, ha12, ha13, ha14, ha15, ha16, ha17, ha18, ha19⟩ := id hM
  exact ⟨(wu_nq (by omega)).trans hm0, ⟨hv3, hv4, hv5, hv6, hv8, hv9, hv11, hv12, hv15, hv18, hv19, hv20, hv24, hv30, hv31, hv32, hv33, hv34, hv35⟩, (wu_nq (by omega)).trans ha1, wu_eq _ _ _, (wu_nq (by omega)).trans ha3, (wu_nq (by omega)).trans ha4, (wu_nq (by omega)).trans ha5, (wu_nq (by omega)).trans ha6, (wu_nq (by omega)).trans ha7, (wu_nq (by omega)).trans ha8, (wu_nq (by omega)).trans ha9, (wu_nq (by omega)).trans ha10, (wu_nq (by omega)).trans ha11, (wu_nq (by omega)).trans ha12, (wu_nq (by omega)).trans ha13, (wu_nq (by omega)).trans ha14, (wu_nq (by omega)).trans ha15, (wu_nq (by omega)).trans ha16, (wu_nq (by omega)).trans ha17, (wu_nq (by omega)).trans ha18, (wu_nq (by omega)).trans ha19⟩
theorem MW.a3 {G : XG} {w : Wd} {M0 : Nat} {V : Nat → Value} {A : Nat → Nat → Int32} (hM : MW G w M0 V A) (f : Nat → Int32) : MW G (wu w (M0 + 3) (eI G 205 f)) M0 V (va_up A 3 f) := by
  obtain ⟨hm0, ⟨hv3, hv4, hv5, hv6, hv8, hv9, hv11, hv12, hv15, hv18, hv19, hv20, hv24, hv30, hv31, hv32, hv33, hv34, hv35⟩, ha1, ha2, ha3, ha4, ha5, ha6, ha7, ha8, ha9, ha10, ha11, ha12, ha13, ha14, ha15, ha16, ha17, ha18, ha19⟩ := id hM
  exact ⟨(wu_nq (by omega)).trans hm0, ⟨hv3, hv4, hv5, hv6, hv8, hv9, hv11, hv12, hv15, hv18, hv19, hv20, hv24, hv30, hv31, hv32, hv33, hv34, hv35⟩, (wu_nq (by omega)).trans ha1, (wu_nq (by omega)).trans ha2, wu_eq _ _ _, (wu_nq (by omega)).trans ha4, (wu_nq (by omega)).trans ha5, (wu_nq (by omega)).trans ha6, (wu_nq (by omega)).trans ha7, (wu_nq (by omega)).trans ha8, (wu_nq (by omega)).trans ha9, (wu_nq (by omega)).trans ha10, (wu_nq (by omega)).trans ha11, (wu_nq (by omega)).trans ha12, (wu_nq (by omega)).trans ha13, (wu_nq (by omega)).trans ha14, (wu_nq (by omega)).trans ha15, (wu_nq (by omega)).trans ha16, (wu_nq (by omega)).trans ha17, (wu_nq (by omega)).trans ha18, (wu_nq (by omega)).trans ha19⟩
theorem MW.a4 {G : XG} {w : Wd} {M0 : Nat} {V : Nat → Value} {A : Nat → Nat → Int32} (hM : MW G w M0 V A) (f : Nat → Int32) : MW G (wu w (M0 + 4) (eI G 5 f)) M0 V (va_up A 4 f) := by
  obtain ⟨hm0, ⟨hv3, hv4, hv5, hv6, hv8, hv9, hv11, hv12, hv15, hv18, hv19, hv20, hv24, hv30, hv31, hv32, hv33, hv34, hv35⟩, ha1, ha2, ha3, ha4, ha5, ha6, ha7, ha8, ha9, ha10, ha11, ha12, ha13, ha14, ha15, ha16, ha17, ha18, ha19⟩ := id hM
  exact ⟨(wu_nq (by omega)).trans hm0, ⟨hv3, hv4, hv5, hv6, hv8, hv9, hv11, hv12, hv15, hv18, hv19, hv20, hv24, hv30, hv31, hv32, hv33, hv34, hv35⟩, (wu_nq (by omega)).trans ha1, (wu_nq (by omega)).trans ha2, (wu_nq (by omega)).trans ha3, wu_eq _ _ _, (wu_nq (by omega)).trans ha5, (wu_nq (by omega)).trans ha6, (wu_nq (by omega)).trans ha7, (wu_nq (by omega)).trans ha8, (wu_nq (by omega)).trans ha9, (wu_nq (by omega)).trans ha10, (wu_nq (by omega)).trans ha11, (wu_nq (by omega)).trans ha12, (wu_nq (by omega)).trans ha13, (wu_nq (by omega)).trans ha14, (wu_nq (by omega)).trans ha15, (wu_nq (by omega)).trans ha16, (wu_nq (by omega)).trans ha17, (wu_nq (by omega)).trans ha18, (wu_nq (by omega)).trans ha19⟩
theorem MW.a5 {G : XG} {w : Wd} {M0 : Nat} {V : Nat → Value} {A : Nat → Nat → Int32} (hM : MW G w M0 V A) (f : Nat → Int32) : MW G (wu w (M0 + 5) (eI G 6 f)) M0 V (va_up A 5 f) := by
  obtain ⟨hm0, ⟨hv3, hv4, hv5, hv6, hv8, hv9, hv11, hv12, hv15, hv18, hv19, hv20, hv24, hv30, hv31, hv32, hv33, hv34, hv35⟩, ha1, ha2, ha3, ha4, ha5, ha6, ha7, ha8, ha9, ha10, ha11, ha12, ha13, ha14, ha15, ha16, ha17, ha18, ha19⟩ := id hM
  exact ⟨(wu_nq (by omega)).trans hm0, ⟨hv3, hv4, hv5, hv6, hv8, hv9, hv11, hv12, hv15, hv18, hv19, hv20, hv24, hv30, hv31, hv32, hv33, hv34, hv35⟩, (wu_nq (by omega)).trans ha1, (wu_nq (by omega)).trans ha2, (wu_nq (by omega)).trans ha3, (wu_nq (by omega)).trans ha4, wu_eq _ _ _, (wu_nq (by omega)).trans ha6, (wu_nq (by omega)).trans ha7, (wu_nq (by omega)).trans ha8, (wu_nq (by omega)).trans ha9, (wu_nq (by omega)).trans ha10, (wu_nq (by omega)).trans ha11, (wu_nq (by omega)).trans ha12, (wu_nq (by omega)).trans ha13, (wu_nq (by omega)).trans ha14, (wu_nq (by omega)).trans ha15, (wu_nq (by omega)).trans ha16, (wu_nq (by omega)).trans ha17, (wu_nq (by omega)).trans ha18, (wu_nq (by omega)).trans ha19⟩
theorem MW.a6 {G : XG} {w : Wd} {M0 : Nat} {V : Nat → Value} {A : Nat → Nat → Int32} (hM : MW G w M0 V A) (f : Nat → Int32) : MW G (wu w (M0 + 6) (eI G 6 f)) M0 V (va_up A 6 f) := by
  obtain ⟨hm0, ⟨hv3, hv4, hv5, hv6, hv8, hv9, hv11, hv12, hv15, hv18, hv19, hv20, hv24, hv30, hv31, hv32, hv33, hv34, hv35⟩, ha1, ha2, ha3, ha4, ha5, ha6, ha7, ha8, ha9, ha10, ha11, ha12, ha13, ha14, ha15, ha16, ha17, ha18, ha19⟩ := id hM
  exact ⟨(wu_nq (by omega)).trans hm0, ⟨hv3, hv4, hv5, hv6, hv8, hv9, hv11, hv12, hv15, hv18, hv19, hv20, hv24, hv30, hv31, hv32, hv33, hv34, hv35⟩, (wu_nq (by omega)).trans ha1, (wu_nq (by omega)).trans ha2, (wu_nq (by omega)).trans ha3, (wu_nq (by omega)).trans ha4, (wu_nq (by omega)).trans ha5, wu_eq _ _ _, (wu_nq (by omega)).trans ha7, (wu_nq (by omega)).trans ha8, (wu_nq (by omega)).trans ha9, (wu_nq (by omega)).trans ha10, (wu_nq (by omega)).trans ha11, (wu_nq (by omega)).trans ha12, (wu_nq (by omega)).trans ha13, (wu_nq (by omega)).trans ha14, (wu_nq (by omega)).trans ha15, (wu_nq (by omega)).trans ha16, (wu_nq (by omega)).trans ha17, (wu_nq (by omega)).trans ha18, (wu_nq (by omega)).trans ha19⟩
theorem MW.a7 {G : XG} {w : Wd} {M0 : Nat} {V : Nat → Value} {A : Nat → Nat → Int32} (hM : MW G w M0 V A) (f : Nat → Int32) : MW G (wu w (M0 + 7) (eI G 6 f)) M0 V (va_up A 7 f) := by
  obtain ⟨hm0, ⟨hv3, hv4, hv5, hv6, hv8, hv9, hv11, hv12, hv15, hv18, hv19, hv20, hv24, hv30, hv31, hv32, hv33, hv34, hv35⟩, ha1, ha2, ha3, ha4, ha5, ha6, ha7, ha8, ha9, ha10, ha11, ha12, ha13, ha14, ha15, ha16, ha17, ha18, ha19⟩ := id hM
  exact ⟨(wu_nq (by omega)).trans hm0, ⟨hv3, hv4, hv5, hv6, hv8, hv9, hv11, hv12, hv15, hv18, hv19, hv20, hv24, hv30, hv31, hv32, hv33, hv34, hv35⟩, (wu_nq (by omega)).trans ha1, (wu_nq (by omega)).trans ha2, (wu_nq (by omega)).trans ha3, (wu_nq (by omega)).trans ha4, (wu_nq (by omega)).trans ha5, (wu_nq (by omega)).trans ha6, wu_eq _ _ _, (wu_nq (by omega)).trans ha8, (wu_nq (by omega)).trans ha9, (wu_nq (by omega)).trans ha10, (wu_nq (by omega)).trans ha11, (wu_nq (by omega)).trans ha12, (wu_nq (by omega)).trans ha13, (wu_nq (by omega)).trans ha14, (wu_nq (by omega)).trans ha15, (wu_nq (by omega)).trans ha16, (wu_nq (by omega)).trans ha17, (wu_nq (by omega)).trans ha18, (wu_nq (by omega)).trans ha19⟩
theorem MW.a8 {G : XG} {w : Wd} {M0 : Nat} {V : Nat → Value} {A : Nat → Nat → Int32} (hM : MW G w M0 V A) (f : Nat → Int32) : MW G (wu w (M0 + 8) (eI G 6 f)) M0 V (va_up A 8 f) := by
  obtain ⟨hm0, ⟨hv3, hv4, hv5, hv6, hv8, hv9, hv11, hv12, hv15, hv18, hv19, hv20, hv24, hv30, hv31, hv32, hv33, hv34, hv35⟩, ha1, ha2, ha3, ha4, ha5, ha6, ha7, ha8, ha9, ha10, ha11, ha12, ha13, ha14, ha15, ha16, ha17, ha18, ha19⟩ := id hM
  exact ⟨(wu_nq (by omega)).trans hm0, ⟨hv3, hv4, hv5, hv6, hv8, hv9, hv11, hv12, hv15, hv18, hv19, hv20, hv24, hv30, hv31, hv32, hv33, hv34, hv35⟩, (wu_nq (by omega)).trans ha1, (wu_nq (by omega)).trans ha2, (wu_nq (by omega)).trans ha3, (wu_nq (by omega)).trans ha4, (wu_nq (by omega)).trans ha5, (wu_nq (by omega)).trans ha6, (wu_nq (by omega)).trans ha7, wu_eq _ _ _, (wu_nq (by omega)).trans ha9, (wu_nq (by omega)).trans ha10, (wu_nq (by omega)).trans ha11, (wu_nq (by omega)).trans ha12, (wu_nq (by omega)).trans ha13, (wu_nq (by omega)).trans ha14, (wu_nq (by omega)).trans ha15, (wu_nq (by omega)).trans ha16, (wu_nq (by omega)).trans ha17, (wu_nq (by omega)).trans ha18, (wu_nq (by omega)).trans ha19⟩
theorem MW.a9 {G : XG} {w : Wd} {M0 : Nat} {V : Nat → Value} {A : Nat → Nat → Int32} (hM : MW G w M0 V A) (f : Nat → Int32) : MW G (wu w (M0 + 9) (eB G 18 f)) M0 V (va_up A 9 f) := by
  obtain ⟨hm0, ⟨hv3, hv4, hv5, hv6, hv8, hv9, hv11, hv12, hv15, hv18, hv19, hv20, hv24, hv30, hv31, hv32, hv33, hv34, hv35⟩, ha1, ha2, ha3, ha4, ha5, ha6, ha7, ha8, ha9, ha10, ha11, ha12, ha13, ha14, ha15, ha16, ha17, ha18, ha19⟩ := id hM
  exact ⟨(wu_nq (by omega)).trans hm0, ⟨hv3, hv4, hv5, hv6, hv8, hv9, hv11, hv12, hv15, hv18, hv19, hv20, hv24, hv30, hv31, hv32, hv33, hv34, hv35⟩, (wu_nq (by omega)).trans ha1, (wu_nq (by omega)).trans ha2, (wu_nq (by omega)).trans ha3, (wu_nq (by omega)).trans ha4, (wu_nq (by omega)).trans ha5, (wu_nq (by omega)).trans ha6, (wu_nq (by omega)).trans ha7, (wu_nq (by omega)).trans ha8, wu_eq _ _ _, (wu_nq (by omega)).trans ha10, (wu_nq (by omega)).trans ha11, (wu_nq (by omega)).trans ha12, (wu_nq (by omega)).trans ha13, (wu_nq (by omega)).trans ha14, (wu_nq (by omega)).trans ha15, (wu_nq (by omega)).trans ha16, (wu_nq (by omega)).trans ha17, (wu_nq (by omega)).trans ha18, (wu_nq (by omega)).trans ha19⟩
theorem MW.a10 {G : XG} {w : Wd} {M0 : Nat} {V : Nat → Value} {A : Nat → Nat → Int32} (hM : MW G w M0 V A) (f : Nat → Int32) : MW G (wu w (M0 + 10) (eI G 25 f)) M0 V (va_up A 10 f) := by
  obtain ⟨hm0, ⟨hv3, hv4, hv5, hv6, hv8, hv9, hv11, hv12, hv15, hv18, hv19, hv20, hv24, hv30, hv31, hv32, hv33, hv34, hv35⟩, ha1, ha2, ha3, ha4, ha5, ha6, ha7, ha8, ha9, ha10, ha11, ha12, ha13, ha14, ha15, ha16, ha17, ha18, ha19⟩ := id hM
  exact ⟨(wu_nq (by omega)).trans hm0, ⟨hv3, hv4, hv5, hv6, hv8, hv9, hv11, hv12, hv15, hv18, hv19, hv20, hv24, hv30, hv31, hv32, hv33, hv34, hv35⟩, (wu_nq (by omega)).trans ha1, (wu_nq (by omega)).trans ha2, (wu_nq (by omega)).trans ha3, (wu_nq (by omega)).trans ha4, (wu_nq (by omega)).trans ha5, (wu_nq (by omega)).trans ha6, (wu_nq (by omega)).trans ha7, (wu_nq (by omega)).trans ha8, (wu_nq (by omega)).trans ha9, wu_eq _ _ _, (wu_nq (by omega)).trans ha11, (wu_nq (by omega)).trans ha12, (wu_nq (by omega)).trans ha13, (wu_nq (by omega)).trans ha14, (wu_nq (by omega)).trans ha15, (wu_nq (by omega)).trans ha16, (wu_nq (by omega)).trans ha17, (wu_nq (by omega)).trans ha18, (wu_nq (by omega)).trans ha19⟩
theorem MW.a11 {G : XG} {w : Wd} {M0 : Nat} {V : Nat → Value} {A : Nat → Nat → Int32} (hM : MW G w M0 V A) (f : Nat → Int32) : MW G (wu w (M0 + 11) (eI G 5 f)) M0 V (va_up A 11 f) := by
  obtain ⟨hm0, ⟨hv3, hv4, hv5, hv6, hv8, hv9, hv11, hv12, hv15, hv18, hv19, hv20, hv24, hv30, hv31, hv32, hv33, hv34, hv35⟩, ha1, ha2, ha3, ha4, ha5, ha6, ha7, ha8, ha9, ha10, ha11, ha12, ha13, ha14, ha15, ha16, ha17, ha18, ha19⟩ := id hM
  exact ⟨(wu_nq (by omega)).trans hm0, ⟨hv3, hv4, hv5, hv6, hv8, hv9, hv11, hv12, hv15, hv18, hv19, hv20, hv24, hv30, hv31, hv32, hv33, hv34, hv35⟩, (wu_nq (by omega)).trans ha1, (wu_nq (by omega)).trans ha2, (wu_nq (by omega)).trans ha3, (wu_nq (by omega)).trans ha4, (wu_nq (by omega)).trans ha5, (wu_nq (by omega)).trans ha6, (wu_nq (by omega)).trans ha7, (wu_nq (by omega)).trans ha8, (wu_nq (by omega)).trans ha9, (wu_nq (by omega)).trans ha10, wu_eq _ _ _, (wu_nq (by omega)).trans ha12, (wu_nq (by omega)).trans ha13, (wu_nq (by omega)).trans ha14, (wu_nq (by omega)).trans ha15, (wu_nq (by omega)).trans ha16, (wu_nq (by omega)).trans ha17, (wu_nq (by omega)).trans ha18, (wu_nq (by omega)).trans ha19⟩
theorem MW.a12 {G : XG} {w : Wd} {M0 : Nat} {V : Nat → Value} {A : Nat → Nat → Int32} (hM : MW G w M0 V A) (f : Nat → Int32) : MW G (wu w (M0 + 12) (eI G 5 f)) M0 V (va_up A 12 f) := by
  obtain ⟨hm0, ⟨hv3, hv4, hv5, hv6, hv8, hv9, hv11, hv12, hv15, hv18, hv19, hv20, hv24, hv30, hv31, hv32, hv33, hv34, hv35⟩, ha1, ha2, ha3, ha4, ha5, ha6, ha7, ha8, ha9, ha10, ha11, ha12, ha13, ha14, ha15, ha16, ha17, ha18, ha19⟩ := id hM
  exact ⟨(wu_nq (by omega)).trans hm0, ⟨hv3, hv4, hv5, hv6, hv8, hv9, hv11, hv12, hv15, hv18, hv19, hv20, hv24, hv30, hv31, hv32, hv33, hv34, hv35⟩, (wu_nq (by omega)).trans ha1, (wu_nq (by omega)).trans ha2, (wu_nq (by omega)).trans ha3, (wu_nq (by omega)).trans ha4, (wu_nq (by omega)).trans ha5, (wu_nq (by omega)).trans ha6, (wu_nq (by omega)).trans ha7, (wu_nq (by omega)).trans ha8, (wu_nq (by omega)).trans ha9, (wu_nq (by omega)).trans ha10, (wu_nq (by omega)).trans ha11, wu_eq _ _ _, (wu_nq (by omega)).trans ha13, (wu_nq (by omega)).trans ha14, (wu_nq (by omega)).trans ha15, (wu_nq (by omega)).trans ha16, (wu_nq (by omega)).trans ha17, (wu_nq (by omega)).trans ha18, (wu_nq (by omega)).trans ha19⟩
theorem MW.a13 {G : XG} {w : Wd} {M0 : Nat} {V : Nat → Value} {A : Nat → Nat → Int32} (hM : MW G w M0 V A) (f : Nat → Int32) : MW G (wu w (M0 + 13) (eI G 5 f)) M0 V (va_up A 13 f) := by
  obtain ⟨hm0, ⟨hv3, hv4, hv5, hv6, hv8, hv9, hv11, hv12, hv15, hv18, hv19, hv20, hv24, hv30, hv31, hv32, hv33, hv34, hv35⟩, ha1, ha2, ha3, ha4, ha5, ha6, ha7, ha8, ha9, ha10, ha11, ha12, ha13, ha14, ha15, ha16, ha17, ha18, ha19⟩ := id hM
  exact ⟨(wu_nq (by omega)).trans hm0, ⟨hv3, hv4, hv5, hv6, hv8, hv9, hv11, hv12, hv15, hv18, hv19, hv20, hv24, hv30, hv31, hv32, hv33, hv34, hv35⟩, (wu_nq (by omega)).trans ha1, (wu_nq (by omega)).trans ha2, (wu_nq (by omega)).trans ha3, (wu_nq (by omega)).trans ha4, (wu_nq (by omega)).trans ha5, (wu_nq (by omega)).trans ha6, (wu_nq (by omega)).trans ha7, (wu_nq (by omega)).trans ha8, (wu_nq (by omega)).trans ha9, (wu_nq (by omega)).trans ha10, (wu_nq (by omega)).trans ha11, (wu_nq (by omega)).trans ha12, wu_eq _ _ _, (wu_nq (by omega)).trans ha14, (wu_nq (by omega)).trans ha15, (wu_nq (by omega)).trans ha16, (wu_nq (by omega)).trans ha17, (wu_nq (by omega)).trans ha18, (wu_nq (by omega)).trans ha19⟩
theorem MW.a14 {G : XG} {w : Wd} {M0 : Nat} {V : Nat → Value} {A : Nat → Nat → Int32} (hM : MW G w M0 V A) (f : Nat → Int32) : MW G (wu w (M0 + 14) (eI G 205 f)) M0 V (va_up A 14 f) := by
  obtain ⟨hm0, ⟨hv3, hv4, hv5, hv6, hv8, hv9, hv11, hv12, hv15, hv18, hv19, hv20, hv24, hv30, hv31, hv32, hv33, hv34, hv35⟩, ha1, ha2, ha3, ha4, ha5, ha6, ha7, ha8, ha9, ha10, ha11, ha12, ha13, ha14, ha15, ha16, ha17, ha18, ha19⟩ := id hM
  exact ⟨(wu_nq (by omega)).trans hm0, ⟨hv3, hv4, hv5, hv6, hv8, hv9, hv11, hv12, hv15, hv18, hv19, hv20, hv24, hv30, hv31, hv32, hv33, hv34, hv35⟩, (wu_nq (by omega)).trans ha1, (wu_nq (by omega)).trans ha2, (wu_nq (by omega)).trans ha3, (wu_nq (by omega)).trans ha4, (wu_nq (by omega)).trans ha5, (wu_nq (by omega)).trans ha6, (wu_nq (by omega)).trans ha7, (wu_nq (by omega)).trans ha8, (wu_nq (by omega)).trans ha9, (wu_nq (by omega)).trans ha10, (wu_nq (by omega)).trans ha11, (wu_nq (by omega)).trans ha12, (wu_nq (by omega)).trans ha13, wu_eq _ _ _, (wu_nq (by omega)).trans ha15, (wu_nq (by omega)).trans ha16, (wu_nq (by omega)).trans ha17, (wu_nq (by omega)).trans ha18, (wu_nq (by omega)).trans ha19⟩
theorem MW.a15 {G : XG} {w : Wd} {M0 : Nat} {V : Nat → Value} {A : Nat → Nat → Int32} (hM : MW G w M0 V A) (f : Nat → Int32) : MW G (wu w (M0 + 15) (eI G 5 f)) M0 V (va_up A 15 f) := by
  obtain ⟨hm0, ⟨hv3, hv4, hv5, hv6, hv8, hv9, hv11, hv12, hv15, hv18, hv19, hv20, hv24, hv30, hv31, hv32, hv33, hv34, hv35⟩, ha1, ha2, ha3, ha4, ha5, ha6, ha7, ha8, ha9, ha10, ha11, ha12, ha13, ha14, ha15, ha16, ha17, ha18, ha19⟩ := id hM
  exact ⟨(wu_nq (by omega)).trans hm0, ⟨hv3, hv4, hv5, hv6, hv8, hv9, hv11, hv12, hv15, hv18, hv19, hv20, hv24, hv30, hv31, hv32, hv33, hv34, hv35⟩, (wu_nq (by omega)).trans ha1, (wu_nq (by omega)).trans ha2, (wu_nq (by omega)).trans ha3, (wu_nq (by omega)).trans ha4, (wu_nq (by omega)).trans ha5, (wu_nq (by omega)).trans ha6, (wu_nq (by omega)).trans ha7, (wu_nq (by omega)).trans ha8, (wu_nq (by omega)).trans ha9, (wu_nq (by omega)).trans ha10, (wu_nq (by omega)).trans ha11, (wu_nq (by omega)).trans ha12, (wu_nq (by omega)).trans ha13, (wu_nq (by omega)).trans ha14, wu_eq _ _ _, (wu_nq (by omega)).trans ha16, (wu_nq (by omega)).trans ha17, (wu_nq (by omega)).trans ha18, (wu_nq (by omega)).trans ha19⟩
theorem MW.a16 {G : XG} {w : Wd} {M0 : Nat} {V : Nat → Value} {A : Nat → Nat → Int32} (hM : MW G w M0 V A) (f : Nat → Int32) : MW G (wu w (M0 + 16) (eI G 6 f)) M0 V (va_up A 16 f) := by
  obtain ⟨hm0, ⟨hv3, hv4, hv5, hv6, hv8, hv9, hv11, hv12, hv15, hv18, hv19, hv20, hv24, hv30, hv31, hv32, hv33, hv34, hv35⟩, ha1, ha2, ha3, ha4, ha5, ha6, ha7, ha8, ha9, ha10, ha11, ha12, ha13, ha14, ha15, ha16, ha17, ha18, ha19⟩ := id hM
  exact ⟨(wu_nq (by omega)).trans hm0, ⟨hv3, hv4, hv5, hv6, hv8, hv9, hv11, hv12, hv15, hv18, hv19, hv20, hv24, hv30, hv31, hv32, hv33, hv34, hv35⟩, (wu_nq (by omega)).trans ha1, (wu_nq (by omega)).trans ha2, (wu_nq (by omega)).trans ha3, (wu_nq (by omega)).trans ha4, (wu_nq (by omega)).trans ha5, (wu_nq (by omega)).trans ha6, (wu_nq (by omega)).trans ha7, (wu_nq (by omega)).trans ha8, (wu_nq (by omega)).trans ha9, (wu_nq (by omega)).trans ha10, (wu_nq (by omega)).trans ha11, (wu_nq (by omega)).trans ha12, (wu_nq (by omega)).trans ha13, (wu_nq (by omega)).trans ha14, (wu_nq (by omega)).trans ha15, wu_eq _ _ _, (wu_nq (by omega)).trans ha17, (wu_nq (by omega)).trans ha18, (wu_nq (by omega)).trans ha19⟩
theorem MW.a17 {G : XG} {w : Wd} {M0 : Nat} {V : Nat → Value} {A : Nat → Nat → Int32} (hM : MW G w M0 V A) (f : Nat → Int32) : MW G (wu w (M0 + 17) (eI G 6 f)) M0 V (va_up A 17 f) := by
  obtain ⟨hm0, ⟨hv3, hv4, hv5, hv6, hv8, hv9, hv11, hv12, hv15, hv18, hv19, hv20, hv24, hv30, hv31, hv32, hv33, hv34, hv35⟩, ha1, ha2, ha3, ha4, ha5, ha6, ha7, ha8, ha9, ha10, ha11, ha12, ha13, ha14, ha15, ha16, ha17, ha18, ha19⟩ := id hM
  exact ⟨(wu_nq (by omega)).trans hm0, ⟨hv3, hv4, hv5, hv6, hv8, hv9, hv11, hv12, hv15, hv18, hv19, hv20, hv24, hv30, hv31, hv32, hv33, hv34, hv35⟩, (wu_nq (by omega)).trans ha1, (wu_nq (by omega)).trans ha2, (wu_nq (by omega)).trans ha3, (wu_nq (by omega)).trans ha4, (wu_nq (by omega)).trans ha5, (wu_nq (by omega)).trans ha6, (wu_nq (by omega)).trans ha7, (wu_nq (by omega)).trans ha8, (wu_nq (by omega)).trans ha9, (wu_nq (by omega)).trans ha10, (wu_nq (by omega)).trans ha11, (wu_nq (by omega)).trans ha12, (wu_nq (by omega)).trans ha13, (wu_nq (by omega)).trans ha14, (wu_nq (by omega)).trans ha15, (wu_nq (by omega)).trans ha16, wu_eq _ _ _, (wu_nq (by omega)).trans ha18, (wu_nq (by omega)).trans ha19⟩
theorem MW.a18 {G : XG} {w : Wd} {M0 : Nat} {V : Nat → Value} {A : Nat → Nat → Int32} (hM : MW G w M0 V A) (f : Nat → Int32) : MW G (wu w (M0 + 18) (eI G 6 f)) M0 V (va_up A 18 f) := by
  obtain ⟨hm0, ⟨hv3, hv4, hv5, hv6, hv8, hv9, hv11, hv12, hv15, hv18, hv19, hv20, hv24, hv30, hv31, hv32, hv33, hv34, hv35⟩, ha1, ha2, ha3, ha4, ha5, ha6, ha7, ha8, ha9, ha10, ha11, ha12, ha13, ha14, ha15, ha16, ha17, ha18, ha19⟩ := id hM
  exact ⟨(wu_nq (by omega)).trans hm0, ⟨hv3, hv4, hv5, hv6, hv8, hv9, hv11, hv12, hv15, hv18, hv19, hv20, hv24, hv30, hv31, hv32, hv33, hv34, hv35⟩, (wu_nq (by omega)).trans ha1, (wu_nq (by omega)).trans ha2, (wu_nq (by omega)).trans ha3, (wu_nq (by omega)).trans ha4, (wu_nq (by omega)).trans ha5, (wu_nq (by omega)).trans ha6, (wu_nq (by omega)).trans ha7, (wu_nq (by omega)).trans ha8, (wu_nq (by omega)).trans ha9, (wu_nq (by omega)).trans ha10, (wu_nq (by omega)).trans ha11, (wu_nq (by omega)).trans ha12, (wu_nq (by omega)).trans ha13, (wu_nq (by omega)).trans ha14, (wu_nq (by omega)).trans ha15, (wu_nq (by omega)).trans ha16, (wu_nq (by omega)).trans ha17, wu_eq _ _ _, (wu_nq (by omega)).trans ha19⟩
theorem MW.a19 {G : XG} {w : Wd} {M0 : Nat} {V : Nat → Value} {A : Nat → Nat → Int32} (hM : MW G w M0 V A) (f : Nat → Int32) : MW G (wu w (M0 + 19) (eI G 6 f)) M0 V (va_up A 19 f) := by
  obtain ⟨hm0, ⟨hv3, hv4, hv5, hv6, hv8, hv9, hv11, hv12, hv15, hv18, hv19, hv20, hv24, hv30, hv31, hv32, hv33, hv34, hv35⟩, ha1, ha2, ha3, ha4, ha5, ha6, ha7, ha8, ha9, ha10, ha11, ha12, ha13, ha14, ha15, ha16, ha17, ha18, ha19⟩ := id hM
  exact ⟨(wu_nq (by omega)).trans hm0, ⟨hv3, hv4, hv5, hv6, hv8, hv9, hv11, hv12, hv15, hv18, hv19, hv20, hv24, hv30, hv31, hv32, hv33, hv34, hv35⟩, (wu_nq (by omega)).trans ha1, (wu_nq (by omega)).trans ha2, (wu_nq (by omega)).trans ha3, (wu_nq (by omega)).trans ha4, (wu_nq (by omega)).trans ha5, (wu_nq (by omega)).trans ha6, (wu_nq (by omega)).trans ha7, (wu_nq (by omega)).trans ha8, (wu_nq (by omega)).trans ha9, (wu_nq (by omega)).trans ha10, (wu_nq (by omega)).trans ha11, (wu_nq (by omega)).trans ha12, (wu_nq (by omega)).trans ha13, (wu_nq (by omega)).trans ha14, (wu_nq (by omega)).trans ha15, (wu_nq (by omega)).trans ha16, (wu_nq (by omega)).trans ha17, (wu_nq (by omega)).trans ha18, wu_eq _ _ _⟩
def mrf (k : Nat) : Bool := [3, 4, 5, 6, 8, 9, 11, 12, 15, 18, 19, 20, 24, 30, 31, 32, 33, 34, 35].contains k
theorem MW.put {G : XG} {w : Wd} {M0 k : Nat} {V : Nat → Value} {A : Nat → Nat → Int32} (hM : MW G w M0 V A) (v : Value) (hk : mrf k = false) : MW G (wu w M0 (eO 12 (mfl (vu V k v)))) M0 (vu V k v) A := by
  obtain ⟨hm0, ⟨hv3, hv4, hv5, hv6, hv8, hv9, hv11, hv12, hv15, hv18, hv19, hv20, hv24, hv30, hv31, hv32, hv33, hv34, hv35⟩, ha1, ha2, ha3, ha4, ha5, ha6, ha7, ha8, ha9, ha10, ha11, ha12, ha13, ha14, ha15, ha16, ha17, ha18, ha19⟩ := id hM
  exact ⟨wu_eq _ _ _, ⟨vu_ne (fun e => by subst e; exact absurd hk (by decide)) hv3, vu_ne (fun e => by subst e; exact absurd hk (by decide)) hv4, vu_ne (fun e => by subst e; exact absurd hk (by decide)) hv5, vu_ne (fun e => by subst e; exact absurd hk (by decide)) hv6, vu_ne (fun e => by subst e; exact absurd hk (by decide)) hv8, vu_ne (fun e => by subst e; exact absurd hk (by decide)) hv9, vu_ne (fun e => by subst e; exact absurd hk (by decide)) hv11, vu_ne (fun e => by subst e; exact absurd hk (by decide)) hv12, vu_ne (fun e => by subst e; exact absurd hk (by decide)) hv15, vu_ne (fun e => by subst e; exact absurd hk (by decide)) hv18, vu_ne (fun e => by subst e; exact absurd hk (by decide)) hv19, vu_ne (fun e => by subst e; exact absurd hk (by decide)) hv20, vu_ne (fun e => by subst e; exact absurd hk (by decide)) hv24, vu_ne (fun e => by subst e; exact absurd hk (by decide)) hv30, vu_ne (fun e => by subst e; exact absurd hk (by decide)) hv31, vu_ne (fun e => by subst e; exact absurd hk (by decide)) hv32, vu_ne (fun e => by subst e; exact absurd hk (by decide)) hv33, vu_ne (fun e => by subst e; exact absurd hk (by decide)) hv34, vu_ne (fun e => by subst e; exact absurd hk (by decide)) hv35⟩, (wu_nq (by omega)).trans ha1, (wu_nq (by omega)).trans ha2, (wu_nq (by omega)).trans ha3, (wu_nq (by omega)).trans ha4, (wu_nq (by omega)).trans ha5, (wu_nq (by omega)).trans ha6, (wu_nq (by omega)).trans ha7, (wu_nq (by omega)).trans ha8, (wu_nq (by omega)).trans ha9, (wu_nq (by omega)).trans ha10, (wu_nq (by omega)).trans ha11, (wu_nq (by omega)).trans ha12, (wu_nq (by omega)).trans ha13, (wu_nq (by omega)).trans ha14, (wu_nq (by omega)).trans ha15, (wu_nq (by omega)).trans ha16, (wu_nq (by omega)).trans ha17, (wu_nq (by omega)).trans ha18, (wu_nq (by omega)).trans ha19⟩
theorem MW.out {G : XG} {w w1 : Wd} {M0 lo hi : Nat} {V : Nat → Value} {A : Nat → Nat → Int32} (hM : MW G w M0 V A) (ho : Out w w1 lo hi) (hd : M0 + 20 ≤ lo ∨ hi ≤ M0) : MW G w1 M0 V A := by
  obtain ⟨hm0, ⟨hv3, hv4, hv5, hv6, hv8, hv9, hv11, hv12, hv15, hv18, hv19, hv20, hv24, hv30, hv31, hv32, hv33, hv34, hv35⟩, ha1, ha2, ha3, ha4, ha5, ha6, ha7, ha8, ha9, ha10, ha11, ha12, ha13, ha14, ha15, ha16, ha17, ha18, ha19⟩ := id hM
  exact ⟨(ho _ (by omega)).trans hm0, ⟨hv3, hv4, hv5, hv6, hv8, hv9, hv11, hv12, hv15, hv18, hv19, hv20, hv24, hv30, hv31, hv32, hv33, hv34, hv35⟩, (ho _ (by omega)).trans ha1, (ho _ (by omega)).trans ha2, (ho _ (by omega)).trans ha3, (ho _ (by omega)).trans ha4, (ho _ (by omega)).trans ha5, (ho _ (by omega)).trans ha6, (ho _ (by omega)).trans ha7, (ho _ (by omega)).trans ha8, (ho _ (by omega)).trans ha9, (ho _ (by omega)).trans ha10, (ho _ (by omega)).trans ha11, (ho _ (by omega)).trans ha12, (ho _ (by omega)).trans ha13, (ho _ (by omega)).trans ha14, (ho _ (by omega)).trans ha15, (ho _ (by omega)).trans ha16, (ho _ (by omega)).trans ha17, (ho _ (by omega)).trans ha18, (ho _ (by omega)).trans ha19⟩
theorem MW.outz {G : XG} {w w1 : Wd} {M0 lo hi Z : Nat} {V : Nat → Value} {A : Nat → Nat → Int32} (hM : MW G w M0 V A) (ho : OutZ w w1 lo hi Z) (hd : M0 + 20 ≤ lo ∨ hi ≤ M0) (hz : M0 + 20 ≤ Z) : MW G w1 M0 V A := by
  obtain ⟨hm0, ⟨hv3, hv4, hv5, hv6, hv8, hv9, hv11, hv12, hv15, hv18, hv19, hv20, hv24, hv30, hv31, hv32, hv33, hv34, hv35⟩, ha1, ha2, ha3, ha4, ha5, ha6, ha7, ha8, ha9, ha10, ha11, ha12, ha13, ha14, ha15, ha16, ha17, ha18, ha19⟩ := id hM
  exact ⟨(ho _ (by omega) (by omega)).trans hm0, ⟨hv3, hv4, hv5, hv6, hv8, hv9, hv11, hv12, hv15, hv18, hv19, hv20, hv24, hv30, hv31, hv32, hv33, hv34, hv35⟩, (ho _ (by omega) (by omega)).trans ha1, (ho _ (by omega) (by omega)).trans ha2, (ho _ (by omega) (by omega)).trans ha3, (ho _ (by omega) (by omega)).trans ha4, (ho _ (by omega) (by omega)).trans ha5, (ho _ (by omega) (by omega)).trans ha6, (ho _ (by omega) (by omega)).trans ha7, (ho _ (by omega) (by omega)).trans ha8, (ho _ (by omega) (by omega)).trans ha9, (ho _ (by omega) (by omega)).trans ha10, (ho _ (by omega) (by omega)).trans ha11, (ho _ (by omega) (by omega)).trans ha12, (ho _ (by omega) (by omega)).trans ha13, (ho _ (by omega) (by omega)).trans ha14, (ho _ (by omega) (by omega)).trans ha15, (ho _ (by omega) (by omega)).trans ha16, (ho _ (by omega) (by omega)).trans ha17, (ho _ (by omega) (by omega)).trans ha18, (ho _ (by omega) (by omega)).trans ha19⟩
/-- pens, deeds, what is heard, in the reference's arrays -/
def RB (n : Nat) (B : Bk) (hand lent debt bound who hb : Nat → Int32) : Prop := (∀ i, i < n → lent i = nI ((B.1 i).length - 1) ∧ ∀ k, k < (B.1 i).length → hand (41 * i + k) = nI ((B.1 i).getD ((B.1 i).length - 1 - k) 0)) ∧ (∀ d, d < B.2.1.length → debt d = nI (dbt B.2.1 d) ∧ bound d = nI (bd B.2.1 d)) ∧ ∀ k, k < B.2.2.length → who k = nI (B.2.2.getD k (0, false)).1 ∧ hb k = bI (B.2.2.getD k (0, false)).2
/-- what bounds a state -/
def WB (S : QS) : Prop := sn S ≤ 5 ∧ sL S ≤ 5 ∧ (∀ i, i < sn S → kd (sP S) i ≤ 4 ∧ wo (sP S) i ≤ 9) ∧ (∀ i, i < sn S → 1 ≤ (sp S i).length ∧ (sp S i).length ≤ 41) ∧ (sd S).length ≤ 6 ∧ (∀ d, d < (sd S).length → dbt (sd S) d ≤ 9 ∧ bd (sd S) d < 32) ∧ (sh S).length ≤ 6 ∧ (sg S).length ≤ 18 ∧ (∀ i, i < (sg S).length → 32 ≤ pgc (sg S) i ∧ pgc (sg S) i ≤ 126) ∧ ∀ B, sI S = some B → (∀ i, i < sn S → 1 ≤ (B.1 i).length ∧ (B.1 i).length ≤ 41) ∧ B.2.1.length ≤ 6 ∧ B.2.2.length ≤ 6
/-- the reference's numbers and arrays show the state -/
def RM (S : QS) (V : Nat → Value) (A : Nat → Nat → Int32) : Prop := V 0 = .int (nI (sT S)) ∧ V 1 = .int (nI (sn S)) ∧ V 2 = .int (nI (sL S)) ∧ V 7 = .int (nI (sd S).length) ∧ V 10 = .int (nI (sh S).length) ∧ V 13 = .int (nI (sA S)) ∧ V 14 = .int (nI (sg S).length) ∧ (∀ i, i < sn S → A 1 i = nI (kd (sP S) i) ∧ A 2 i = nI (wo (sP S) i)) ∧ RB (sn S) (sB S) (A 3) (A 4) (A 5) (A 6) (A 7) (A 8) ∧ (∀ i, i < (sg S).length → A 9 i = nI (pgc (sg S) i)) ∧ ∃ (b : Bool) (kt : Nat), V 26 = .int (bI b) ∧ V 27 = .int (nI kt) ∧ kt ≤ sT S ∧ (b = true → kt = sT S → ∃ B, sI S = some B) ∧ ∀ B, sI S = some B → b = true ∧ kt = sT S ∧ V 28 = .int (nI B.2.1.length) ∧ V 29 = .int (nI B.2.2.length) ∧ RB (sn S) B (A 14) (A 15) (A 16) (A 17) (A 18) (A 19)
theorem RLQ.wb {G : XG} {w : Wd} {x0 Z : Nat} {S : QS} (hR : RLQ G w x0 Z S) : WB S := by
  obtain ⟨hx0, hPg, hTn, hBk, ⟨Bi, hBi, hBie⟩, -, -⟩ := hR
  have h5 := hTn.five
  obtain ⟨hd6, hh6, hdw⟩ := hBk.six
  have hn5 : sn S ≤ 5 := h5.1
  refine ⟨h5.1, h5.2, fun i hi => hTn.kd hi, fun i hi => (hBk.pen (i := i) (by omega)).len, hd6, hdw, hh6, hPg.len, fun i hi => ?_, fun B hB => ?_⟩
  · obtain ⟨f, -, -, -, -, h⟩ := hPg
    exact h i hi
  · have e := hBie B hB
    subst e
    obtain ⟨h6, h7, -⟩ := hBi.six
    exact ⟨fun i hi => (hBi.pen (i := i) (by omega)).len, h6, h7⟩
/-- lo <= v <= hi, as the machine tells it -/
def wiB (v lo hi : Int32) : Bool := decide (¬ v < lo ∧ ¬ hi < v)
theorem wiB_in {x : Int32} {n : Nat} (hn : n < 2 ^ 31) : wiB x (nI 0) (nI n - nI 1) = decide (inR x n) := by
  unfold wiB
  congr 1
  rw [Int32.lt_iff_toInt_lt, Int32.lt_iff_toInt_lt, nI_toInt (show 0 < 2 ^ 31 by omega)]
  have e : (nI n - nI 1).toInt = (n : Int) - 1 := by
    rcases Nat.eq_zero_or_pos n with h | h
    · subst h; decide
    · rw [pk_sub (by omega), nI_toInt (by omega)]
      omega
  rw [e]
  exact propext ⟨fun h => ⟨by omega, by omega⟩, fun h => ⟨by have := h.1; omega, by have := h.2; omega⟩⟩
theorem wiB_ab {x : Int32} {a b : Nat} (ha : a < 2 ^ 31) (hb : b < 2 ^ 31) : wiB x (nI a) (nI b) = decide ((a : Int) ≤ x.toInt ∧ x.toInt ≤ (b : Int)) := by
  unfold wiB
  congr 1
  rw [Int32.lt_iff_toInt_lt, Int32.lt_iff_toInt_lt, nI_toInt ha, nI_toInt hb]
  exact propext ⟨fun h => ⟨by omega, by omega⟩, fun h => ⟨by have := h.1; omega, by have := h.2; omega⟩⟩
theorem pcN_sum (n : Nat) : pcN n = sumTo (fun j => n / 2 ^ j % 2) 5 := by simp [pcN, sumTo]
theorem rm_blank {S : QS} {V : Nat → Value} {A : Nat → Nat → Int32} (hR : RM S V A) : RM (blankS S) (vu V 14 (.int (nI 0))) A := by
  obtain ⟨ht, hn, hlm, hdn, hhn, has, hpl, hkw, hRB, hpg, b, kt, h26, h27, hkt, hk1, hk2⟩ := hR
  exact ⟨ht, hn, hlm, hdn, hhn, has, rfl, hkw, hRB, fun i hi => absurd hi (Nat.not_lt_zero i), b, kt, h26, h27, hkt, hk1, hk2⟩
set_option maxHeartbeats 4000000 in
set_option maxRecDepth 100000 in
theorem kX12_within (l : Launch) (N0 : Nat) (G : XG) (w : Wd) (v lo hi : Int32) : XM l yX12_within wsX12_within (rmD 1) N0 G [.int v, .int lo, .int hi] w vI (fun r w1 => bI (wiB v lo hi) = r ∧ w = w1) 0 0 := by
  refine XM.of (cc := cX12_within) (maxL := 3) (ret := (some .boolean)) (by decide) rfl (Nat.le_of_ble_eq_true rfl) ?_
  intro p e s m below meth c hx hb hr hlk hin0 hml hown hts hN hw hG hS ls hl
  have hown : s.vm.findClass RX12 = some m.cls := hown
  have hl : lh ls 3 [some (.int v), some (.int lo), some (.int hi)] := hl
  refine xiload_n hx hb dX12_within_0 hl rfl ?_
  refine xiload_n hx hb dX12_within_1 hl rfl ?_
  refine lv_icmp_lt (tgt := 14) hx hb dX12_within_2 (by decide) (fun c2 => ?_) (fun c2 => ?_)
  · skip
    refine lv_iconst (v := nI 0) hx hb dX12_within_14 (by decide) ?_
    first | exact xzret hx hb hr hlk hw hS dX12_within_15 true rfl ⟨congrArg bI (decide_eq_true (⟨c2, c7⟩)), rfl⟩ | exact xzret hx hb hr hlk hw hS dX12_within_15 false rfl ⟨congrArg bI (decide_eq_false (fun q => by first | exact q.1 c2 | exact q.2 c7)), rfl⟩
  · skip
    refine xiload_n hx hb dX12_within_5 hl rfl ?_
    refine xiload_n hx hb dX12_within_6 hl rfl ?_
    refine lv_icmp_gt (tgt := 14) hx hb dX12_within_7 (by decide) (fun c7 => ?_) (fun c7 => ?_)
    · skip
      refine lv_iconst (v := nI 0) hx hb dX12_within_14 (by decide) ?_
      first | exact xzret hx hb hr hlk hw hS dX12_within_15 true rfl ⟨congrArg bI (decide_eq_true (⟨c2, c7⟩)), rfl⟩ | exact xzret hx hb hr hlk hw hS dX12_within_15 false rfl ⟨congrArg bI (decide_eq_false (fun q => by first | exact q.1 c2 | exact q.2 c7)), rfl⟩
    · skip
      refine lv_iconst (v := nI 1) hx hb dX12_within_10 (by decide) ?_
      refine lv_goto (tgt := 15) hx hb dX12_within_11 (by decide) ?_
      first | exact xzret hx hb hr hlk hw hS dX12_within_15 true rfl ⟨congrArg bI (decide_eq_true (⟨c2, c7⟩)), rfl⟩ | exact xzret hx hb hr hlk hw hS dX12_within_15 false rfl ⟨congrArg bI (decide_eq_false (fun q => by first | exact q.1 c2 | exact q.2 c7)), rfl⟩
set_option maxHeartbeats 4000000 in
set_option maxRecDepth 100000 in
theorem kX12_isIn (l : Launch) (N0 : Nat) (G : XG) (w : Wd) (n k : Nat) (hn : n < 32) (hk : k < 5) : XM l yX12_isIn wsX12_isIn (rmD 1) N0 G [.int (nI n), .int (nI k)] w vI (fun r w1 => bI (n.testBit k) = r ∧ w = w1) 0 0 := by
  refine XM.of (cc := cX12_isIn) (maxL := 2) (ret := (some .boolean)) (by decide) rfl (Nat.le_of_ble_eq_true rfl) ?_
  intro p e s m below meth c hx hb hr hlk hin0 hml hown hts hN hw hG hS ls hl
  have hown : s.vm.findClass RX12 = some m.cls := hown
  have hl : lh ls 2 [some (.int (nI n)), some (.int (nI k))] := hl
  have hmm := Nat.mod_lt (n / 2 ^ k) (show 0 < 2 by omega)
  refine xiload_n hx hb dX12_isIn_0 hl rfl ?_
  refine xiload_n hx hb dX12_isIn_1 hl rfl ?_
  first | refine xshr hx hb dX12_isIn_2 (by omega) (by omega) ?_ | refine lv_ishr hx hb dX12_isIn_2 ?_
  refine lv_iconst (v := nI 1) hx hb dX12_isIn_3 (by decide) ?_
  refine xand1 hx hb dX12_isIn_4 ?_
  refine lv_iconst (v := nI 1) hx hb dX12_isIn_5 (by decide) ?_
  first | refine xcmp_ne (tgt := 13) hx hb dX12_isIn_6 (by decide) (by omega) (by omega) (fun c6 => ?_) (fun c6 => ?_) | refine lv_icmp_ne (tgt := 13) hx hb dX12_isIn_6 (by decide) (fun c6 => ?_) (fun c6 => ?_)
  · skip
    refine lv_iconst (v := nI 0) hx hb dX12_isIn_13 (by decide) ?_
    first | exact xzret hx hb hr hlk hw hS dX12_isIn_14 true rfl ⟨congrArg bI ((testBit_dm n k).trans (decide_eq_true (by omega))), rfl⟩ | exact xzret hx hb hr hlk hw hS dX12_isIn_14 false rfl ⟨congrArg bI ((testBit_dm n k).trans (decide_eq_false (by omega))), rfl⟩
  · skip
    refine lv_iconst (v := nI 1) hx hb dX12_isIn_9 (by decide) ?_
    refine lv_goto (tgt := 14) hx hb dX12_isIn_10 (by decide) ?_
    first | exact xzret hx hb hr hlk hw hS dX12_isIn_14 true rfl ⟨congrArg bI ((testBit_dm n k).trans (decide_eq_true (by omega))), rfl⟩ | exact xzret hx hb hr hlk hw hS dX12_isIn_14 false rfl ⟨congrArg bI ((testBit_dm n k).trans (decide_eq_false (by omega))), rfl⟩
set_option maxHeartbeats 4000000 in
set_option maxRecDepth 100000 in
theorem kX12_size (l : Launch) (N0 : Nat) (G : XG) (w : Wd) (n : Nat) (hn : n < 32) : XM l yX12_size wsX12_size (rmD 1) N0 G [.int (nI n)] w vI (fun r w1 => nI (pcN n) = r ∧ w = w1) 0 0 := by
  refine XM.of (cc := cX12_size) (maxL := 3) (ret := (some .int)) (by decide) rfl (Nat.le_of_ble_eq_true rfl) ?_
  intro p e s m below meth c hx hb hr hlk hin0 hml hown hts hN hw hG hS ls hl
  have hown : s.vm.findClass RX12 = some m.cls := hown
  have hl : lh ls 3 [some (.int (nI n)), none, none] := hl
  refine lv_iconst (v := nI 0) hx hb dX12_size_0 (by decide) ?_
  refine xistore_n hx hb dX12_size_1 hl (by decide) rfl (fun ls hl => ?_)
  refine lv_iconst (v := nI 0) hx hb dX12_size_2 (by decide) ?_
  refine xistore_n hx hb dX12_size_3 hl (by decide) rfl (fun ls hl => ?_)
  have loop4 : ∀ (nf : Nat) (k : Nat) (H : Heap) (locs : List Loc) (ls : Array Slot), 5 - k < nf → (k ≤ 5) → PW N0 G w H → va_S (fun q => N0 ≤ q) s.heap H locs → lh ls 3 [some (.int (nI n)), some (.int (nI (sumTo (fun j => n / 2 ^ j % 2) k))), some (.int (nI k))] → W p l e (rmD 1) s m ([.int (nI n)] : List Value).toArray below meth c H locs 0 0 (MQ below (XQ N0 G vI (fun r w1 => nI (pcN n) = r ∧ w = w1)) ([.int (nI n)] : List Value).toArray s 0 0 (fun q => N0 ≤ q)) (F0 m 4 ls []) := by
    intro nf
    induction nf with
    | zero => intros; omega
    | succ nf ih4 =>
      intro k H locs ls hnf hk hw hS hl
      refine xiload_n hx hb dX12_size_4 hl rfl ?_
      refine lv_iconst (v := nI 5) hx hb dX12_size_5 (by decide) ?_
      first | refine xcmp_ge (tgt := 23) hx hb dX12_size_6 (by decide) (by omega) (by omega) (fun c6 => ?_) (fun c6 => ?_) | refine lv_icmp_ge (tgt := 23) hx hb dX12_size_6 (by decide) (fun c6 => ?_) (fun c6 => ?_)
      · skip
        obtain rfl : k = 5 := by omega
        refine xiload_n hx hb dX12_size_23 hl rfl ?_
        exact xiret hx hb hr hlk hw hS dX12_size_24 ⟨congrArg nI (pcN_sum n), rfl⟩
      · skip
        refine xiload_n hx hb dX12_size_9 hl rfl ?_
        refine xiload_n hx hb dX12_size_10 hl rfl ?_
        refine xiload_n hx hb dX12_size_11 hl rfl ?_
        first | refine xshr hx hb dX12_size_12 (by omega) (by omega) ?_ | refine lv_ishr hx hb dX12_size_12 ?_
        refine lv_iconst (v := nI 1) hx hb dX12_size_13 (by decide) ?_
        refine xand1 hx hb dX12_size_14 ?_
        first | refine xadd hx hb dX12_size_15 ?_ | refine lv_iadd hx hb dX12_size_15 ?_
        refine xistore_n hx hb dX12_size_16 hl (by decide) rfl (fun ls hl => ?_)
        first | refine xiincN hx hb 1 dX12_size_17 hl rfl (by decide) (by decide) rfl (fun ls hl => ?_) | refine xiinc hx hb dX12_size_17 hl rfl rfl (by decide) rfl (fun ls hl => ?_)
        refine lv_goto (tgt := 4) hx hb dX12_size_20 (by decide) ?_
        exact ih4 (k + 1) _ _ _ (by omega) (by omega) hw hS hl
  exact loop4 6 0 _ _ _ (by omega) (by omega) hw hS hl
set_option maxHeartbeats 4000000 in
set_option maxRecDepth 100000 in
theorem kX12_isOne (l : Launch) (N0 : Nat) (G : XG) (w : Wd) (M0 : Nat) (V : Nat → Value) (A : Nat → Nat → Int32) (hM : MW G w M0 V A) (S : QS) (hR : RM S V A) (hL : WB S) (x : Int32) : XM l yX12_isOne wsX12_isOne (rmD 2) N0 G [.ref M0, .int x] w vI (fun r w1 => bI (decide (inR x (sn S))) = r ∧ w = w1) 0 0 := by
  refine XM.of (cc := cX12_isOne) (maxL := 2) (ret := (some .boolean)) (by decide) rfl (Nat.le_of_ble_eq_true rfl) ?_
  intro p e s m below meth c hx hb hr hlk hin0 hml hown hts hN hw hG hS ls hl
  have hown : s.vm.findClass RX12 = some m.cls := hown
  have hiX12 : ∀ x ∈ u_ws RX12 TX12 37, x ∈ wsX12_isOne := by decide +kernel
  have hlnk0 := hts (.fieldLink RX12 94 "LentQuillModel" "people" "I") (by decide +kernel)
  have hl : lh ls 2 [some (.ref M0), some (.int x)] := hl
  obtain ⟨hm0, ⟨hv3, hv4, hv5, hv6, hv8, hv9, hv11, hv12, hv15, hv18, hv19, hv20, hv24, hv30, hv31, hv32, hv33, hv34, hv35⟩, ha1, ha2, ha3, ha4, ha5, ha6, ha7, ha8, ha9, ha10, ha11, ha12, ha13, ha14, ha15, ha16, ha17, ha18, ha19⟩ := id hM
  obtain ⟨ht, hn, hlm, hdn, hhn, has, hpl, hkw, hRB, hpg, hkp⟩ := id hR
  obtain ⟨hn5, hl5, hkd, hsp, hd6, hdw, hh6, hg18, hgr, hIm⟩ := id hL
  refine xiload_n hx hb dX12_isOne_0 hl rfl ?_
  refine lv_iconst (v := nI 0) hx hb dX12_isOne_1 (by decide) ?_
  refine xaload_n hx hb dX12_isOne_2 hl rfl ?_
  refine xgetM hx hb hts hiX12 hown hG hw (by repeat first | assumption | exact wu_eq _ _ _ | refine wu_ne (by omega) ?_) 1 (by decide) hlnk0 (by repeat first | assumption | exact vu_eq _ _ _ | refine vu_ne (by decide) ?_) dX12_isOne_3 ?_
  refine lv_iconst (v := nI 1) hx hb dX12_isOne_6 (by decide) ?_
  first | refine xsub hx hb dX12_isOne_7 (by omega) ?_ | refine lv_isub hx hb dX12_isOne_7 ?_
  refine xSi ⟨hx, hb, hml, hown, hts⟩ (kX12_within l N0 G _ _ _ _) (va_cwS 3 hts gX12_isOne_X12_within rfl rfl rfl (by decide +kernel) ⟨Nat.le_of_ble_eq_true rfl, Nat.le_of_ble_eq_true rfl⟩) hG hN hw hS rfl hl.1 rfl (Nat.le_of_ble_eq_true rfl) dX12_isOne_8 ⟨Nat.le_of_ble_eq_true rfl, Nat.le_of_ble_eq_true rfl⟩ (fun r8 w8 H locs hp8 hw hS => ?_)
  obtain ⟨rfl, rfl⟩ := hp8
  refine xtop (congrArg bI (wiB_in (by omega))) ?_
  exact xzret hx hb hr hlk hw hS dX12_isOne_11 _ rfl ⟨rfl, rfl⟩
set_option maxHeartbeats 4000000 in
set_option maxRecDepth 100000 in
theorem kX12_isDeed (l : Launch) (N0 : Nat) (G : XG) (w : Wd) (M0 : Nat) (V : Nat → Value) (A : Nat → Nat → Int32) (hM : MW G w M0 V A) (S : QS) (hR : RM S V A) (hL : WB S) (x : Int32) : XM l yX12_isDeed wsX12_isDeed (rmD 2) N0 G [.ref M0, .int x] w vI (fun r w1 => bI (decide (inR x (sd S).length)) = r ∧ w = w1) 0 0 := by
  refine XM.of (cc := cX12_isDeed) (maxL := 2) (ret := (some .boolean)) (by decide) rfl (Nat.le_of_ble_eq_true rfl) ?_
  intro p e s m below meth c hx hb hr hlk hin0 hml hown hts hN hw hG hS ls hl
  have hown : s.vm.findClass RX12 = some m.cls := hown
  have hiX12 : ∀ x ∈ u_ws RX12 TX12 37, x ∈ wsX12_isDeed := by decide +kernel
  have hlnk0 := hts (.fieldLink RX12 103 "LentQuillModel" "deeds" "I") (by decide +kernel)
  have hl : lh ls 2 [some (.ref M0), some (.int x)] := hl
  obtain ⟨hm0, ⟨hv3, hv4, hv5, hv6, hv8, hv9, hv11, hv12, hv15, hv18, hv19, hv20, hv24, hv30, hv31, hv32, hv33, hv34, hv35⟩, ha1, ha2, ha3, ha4, ha5, ha6, ha7, ha8, ha9, ha10, ha11, ha12, ha13, ha14, ha15, ha16, ha17, ha18, ha19⟩ := id hM
  obtain ⟨ht, hn, hlm, hdn, hhn, has, hpl, hkw, hRB, hpg, hkp⟩ := id hR
  obtain ⟨hn5, hl5, hkd, hsp, hd6, hdw, hh6, hg18, hgr, hIm⟩ := id hL
  refine xiload_n hx hb dX12_isDeed_0 hl rfl ?_
  refine lv_iconst (v := nI 0) hx hb dX12_isDeed_1 (by decide) ?_
  refine xaload_n hx hb dX12_isDeed_2 hl rfl ?_
  refine xgetM hx hb hts hiX12 hown hG hw (by repeat first | assumption | exact wu_eq _ _ _ | refine wu_ne (by omega) ?_) 7 (by decide) hlnk0 (by repeat first | assumption | exact vu_eq _ _ _ | refine vu_ne (by decide) ?_) dX12_isDeed_3 ?_
  refine lv_iconst (v := nI 1) hx hb dX12_isDeed_6 (by decide) ?_
  first | refine xsub hx hb dX12_isDeed_7 (by omega) ?_ | refine lv_isub hx hb dX12_isDeed_7 ?_
  refine xSi ⟨hx, hb, hml, hown, hts⟩ (kX12_within l N0 G _ _ _ _) (va_cwS 3 hts gX12_isDeed_X12_within rfl rfl rfl (by decide +kernel) ⟨Nat.le_of_ble_eq_true rfl, Nat.le_of_ble_eq_true rfl⟩) hG hN hw hS rfl hl.1 rfl (Nat.le_of_ble_eq_true rfl) dX12_isDeed_8 ⟨Nat.le_of_ble_eq_true rfl, Nat.le_of_ble_eq_true rfl⟩ (fun r8 w8 H locs hp8 hw hS => ?_)
  obtain ⟨rfl, rfl⟩ := hp8
  refine xtop (congrArg bI (wiB_in (by omega))) ?_
  exact xzret hx hb hr hlk hw hS dX12_isDeed_11 _ rfl ⟨rfl, rfl⟩
set_option maxHeartbeats 4000000 in
set_option maxRecDepth 100000 in
theorem kX12_isChurch (l : Launch) (N0 : Nat) (G : XG) (w : Wd) (M0 : Nat) (V : Nat → Value) (A : Nat → Nat → Int32) (hM : MW G w M0 V A) (S : QS) (hR : RM S V A) (hL : WB S) (i : Nat) (hi : i < sn S) : XM l yX12_isChurch wsX12_isChurch (rmD 1) N0 G [.ref M0, .int (nI i)] w vI (fun r w1 => bI (chu (kd (sP S) i)) = r ∧ w = w1) 0 0 := by
  refine XM.of (cc := cX12_isChurch) (maxL := 2) (ret := (some .boolean)) (by decide) rfl (Nat.le_of_ble_eq_true rfl) ?_
  intro p e s m below meth c hx hb hr hlk hin0 hml hown hts hN hw hG hS ls hl
  have hown : s.vm.findClass RX12 = some m.cls := hown
  have hiX12 : ∀ x ∈ u_ws RX12 TX12 37, x ∈ wsX12_isChurch := by decide +kernel
  have hlnk0 := hts (.fieldLink RX12 7 "LentQuillModel" "kindOf" "[I") (by decide +kernel)
  have hl : lh ls 2 [some (.ref M0), some (.int (nI i))] := hl
  obtain ⟨hm0, ⟨hv3, hv4, hv5, hv6, hv8, hv9, hv11, hv12, hv15, hv18, hv19, hv20, hv24, hv30, hv31, hv32, hv33, hv34, hv35⟩, ha1, ha2, ha3, ha4, ha5, ha6, ha7, ha8, ha9, ha10, ha11, ha12, ha13, ha14, ha15, ha16, ha17, ha18, ha19⟩ := id hM
  obtain ⟨ht, hn, hlm, hdn, hhn, has, hpl, hkw, hRB, hpg, hkp⟩ := id hR
  obtain ⟨hn5, hl5, hkd, hsp, hd6, hdw, hh6, hg18, hgr, hIm⟩ := id hL
  obtain ⟨hk1, hw1⟩ := hkw i hi
  obtain ⟨hk4, hw9⟩ := hkd i hi
  refine xaload_n hx hb dX12_isChurch_0 hl rfl ?_
  refine xgetM hx hb hts hiX12 hown hG hw (by repeat first | assumption | exact wu_eq _ _ _ | refine wu_ne (by omega) ?_) 3 (by decide) hlnk0 (by repeat first | assumption | exact vu_eq _ _ _ | refine vu_ne (by decide) ?_) dX12_isChurch_1 ?_
  refine xiload_n hx hb dX12_isChurch_4 hl rfl ?_
  refine xiald hx hb hG hw (by repeat first | assumption | exact wu_eq _ _ _ | refine wu_ne (by omega) ?_) (by omega) (by omega) dX12_isChurch_5 ?_
  refine xtop hk1 ?_
  refine lv_iconst (v := nI 1) hx hb dX12_isChurch_6 (by decide) ?_
  first | refine xcmp_eq (tgt := 20) hx hb dX12_isChurch_7 (by decide) (by omega) (by omega) (fun c7 => ?_) (fun c7 => ?_) | refine lv_icmp_eq (tgt := 20) hx hb dX12_isChurch_7 (by decide) (fun c7 => ?_) (fun c7 => ?_)
  · skip
    refine lv_iconst (v := nI 1) hx hb dX12_isChurch_20 (by decide) ?_
    refine lv_goto (tgt := 25) hx hb dX12_isChurch_21 (by decide) ?_
    first | exact xzret hx hb hr hlk hw hS dX12_isChurch_25 true rfl ⟨congrArg bI (decide_eq_true (by omega)), rfl⟩ | exact xzret hx hb hr hlk hw hS dX12_isChurch_25 false rfl ⟨congrArg bI (decide_eq_false (by omega)), rfl⟩
  · skip
    refine xaload_n hx hb dX12_isChurch_10 hl rfl ?_
    refine xgetM hx hb hts hiX12 hown hG hw (by repeat first | assumption | exact wu_eq _ _ _ | refine wu_ne (by omega) ?_) 3 (by decide) hlnk0 (by repeat first | assumption | exact vu_eq _ _ _ | refine vu_ne (by decide) ?_) dX12_isChurch_11 ?_
    refine xiload_n hx hb dX12_isChurch_14 hl rfl ?_
    refine xiald hx hb hG hw (by repeat first | assumption | exact wu_eq _ _ _ | refine wu_ne (by omega) ?_) (by omega) (by omega) dX12_isChurch_15 ?_
    refine xtop hk1 ?_
    refine lv_iconst (v := nI 4) hx hb dX12_isChurch_16 (by decide) ?_
    first | refine xcmp_ne (tgt := 24) hx hb dX12_isChurch_17 (by decide) (by omega) (by omega) (fun c17 => ?_) (fun c17 => ?_) | refine lv_icmp_ne (tgt := 24) hx hb dX12_isChurch_17 (by decide) (fun c17 => ?_) (fun c17 => ?_)
    · skip
      refine lv_iconst (v := nI 0) hx hb dX12_isChurch_24 (by decide) ?_
      first | exact xzret hx hb hr hlk hw hS dX12_isChurch_25 true rfl ⟨congrArg bI (decide_eq_true (by omega)), rfl⟩ | exact xzret hx hb hr hlk hw hS dX12_isChurch_25 false rfl ⟨congrArg bI (decide_eq_false (by omega)), rfl⟩
    · skip
      refine lv_iconst (v := nI 1) hx hb dX12_isChurch_20 (by decide) ?_
      refine lv_goto (tgt := 25) hx hb dX12_isChurch_21 (by decide) ?_
      first | exact xzret hx hb hr hlk hw hS dX12_isChurch_25 true rfl ⟨congrArg bI (decide_eq_true (by omega)), rfl⟩ | exact xzret hx hb hr hlk hw hS dX12_isChurch_25 false rfl ⟨congrArg bI (decide_eq_false (by omega)), rfl⟩
set_option maxHeartbeats 4000000 in
set_option maxRecDepth 100000 in
theorem kX12_worth (l : Launch) (N0 : Nat) (G : XG) (w : Wd) (M0 : Nat) (V : Nat → Value) (A : Nat → Nat → Int32) (hM : MW G w M0 V A) (S : QS) (hR : RM S V A) (hL : WB S) (i : Nat) (hi : i < sn S) : XM l yX12_worth wsX12_worth (rmD 1) N0 G [.ref M0, .int (nI i)] w vI (fun r w1 => nI (wrt (sP S) i) = r ∧ w = w1) 0 0 := by
  refine XM.of (cc := cX12_worth) (maxL := 2) (ret := (some .int)) (by decide) rfl (Nat.le_of_ble_eq_true rfl) ?_
  intro p e s m below meth c hx hb hr hlk hin0 hml hown hts hN hw hG hS ls hl
  have hown : s.vm.findClass RX12 = some m.cls := hown
  have hiX12 : ∀ x ∈ u_ws RX12 TX12 37, x ∈ wsX12_worth := by decide +kernel
  have hlnk0 := hts (.fieldLink RX12 7 "LentQuillModel" "kindOf" "[I") (by decide +kernel)
  have hlnk1 := hts (.fieldLink RX12 13 "LentQuillModel" "worthOf" "[I") (by decide +kernel)
  have hl : lh ls 2 [some (.ref M0), some (.int (nI i))] := hl
  obtain ⟨hm0, ⟨hv3, hv4, hv5, hv6, hv8, hv9, hv11, hv12, hv15, hv18, hv19, hv20, hv24, hv30, hv31, hv32, hv33, hv34, hv35⟩, ha1, ha2, ha3, ha4, ha5, ha6, ha7, ha8, ha9, ha10, ha11, ha12, ha13, ha14, ha15, ha16, ha17, ha18, ha19⟩ := id hM
  obtain ⟨ht, hn, hlm, hdn, hhn, has, hpl, hkw, hRB, hpg, hkp⟩ := id hR
  obtain ⟨hn5, hl5, hkd, hsp, hd6, hdw, hh6, hg18, hgr, hIm⟩ := id hL
  obtain ⟨hk1, hw1⟩ := hkw i hi
  obtain ⟨hk4, hw9⟩ := hkd i hi
  refine xaload_n hx hb dX12_worth_0 hl rfl ?_
  refine xgetM hx hb hts hiX12 hown hG hw (by repeat first | assumption | exact wu_eq _ _ _ | refine wu_ne (by omega) ?_) 3 (by decide) hlnk0 (by repeat first | assumption | exact vu_eq _ _ _ | refine vu_ne (by decide) ?_) dX12_worth_1 ?_
  refine xiload_n hx hb dX12_worth_4 hl rfl ?_
  refine xiald hx hb hG hw (by repeat first | assumption | exact wu_eq _ _ _ | refine wu_ne (by omega) ?_) (by omega) (by omega) dX12_worth_5 ?_
  refine xtop hk1 ?_
  refine lv_iconst (v := nI 4) hx hb dX12_worth_6 (by decide) ?_
  first | refine xcmp_ne (tgt := 21) hx hb dX12_worth_7 (by decide) (by omega) (by omega) (fun c7 => ?_) (fun c7 => ?_) | refine lv_icmp_ne (tgt := 21) hx hb dX12_worth_7 (by decide) (fun c7 => ?_) (fun c7 => ?_)
  · skip
    refine xaload_n hx hb dX12_worth_21 hl rfl ?_
    refine xgetM hx hb hts hiX12 hown hG hw (by repeat first | assumption | exact wu_eq _ _ _ | refine wu_ne (by omega) ?_) 4 (by decide) hlnk1 (by repeat first | assumption | exact vu_eq _ _ _ | refine vu_ne (by decide) ?_) dX12_worth_22 ?_
    refine xiload_n hx hb dX12_worth_25 hl rfl ?_
    refine xiald hx hb hG hw (by repeat first | assumption | exact wu_eq _ _ _ | refine wu_ne (by omega) ?_) (by omega) (by omega) dX12_worth_26 ?_
    first | refine xtop hw1 ?_ | skip
    exact xiret hx hb hr hlk hw hS dX12_worth_27 ⟨by unfold wrt; first | rw [if_pos c7] | rw [if_neg c7], rfl⟩
  · skip
    refine lv_iconst (v := nI 2) hx hb dX12_worth_10 (by decide) ?_
    refine xaload_n hx hb dX12_worth_11 hl rfl ?_
    refine xgetM hx hb hts hiX12 hown hG hw (by repeat first | assumption | exact wu_eq _ _ _ | refine wu_ne (by omega) ?_) 4 (by decide) hlnk1 (by repeat first | assumption | exact vu_eq _ _ _ | refine vu_ne (by decide) ?_) dX12_worth_12 ?_
    refine xiload_n hx hb dX12_worth_15 hl rfl ?_
    refine xiald hx hb hG hw (by repeat first | assumption | exact wu_eq _ _ _ | refine wu_ne (by omega) ?_) (by omega) (by omega) dX12_worth_16 ?_
    refine xtop hw1 ?_
    first | refine xmul hx hb dX12_worth_17 ?_ | refine lv_imul hx hb dX12_worth_17 ?_
    refine lv_goto (tgt := 27) hx hb dX12_worth_18 (by decide) ?_
    first | refine xtop hw1 ?_ | skip
    exact xiret hx hb hr hlk hw hS dX12_worth_27 ⟨by unfold wrt; first | rw [if_pos c7] | rw [if_neg c7], rfl⟩
set_option maxHeartbeats 4000000 in
set_option maxRecDepth 100000 in
theorem kX12_holder (l : Launch) (N0 : Nat) (G : XG) (w : Wd) (M0 : Nat) (V : Nat → Value) (A : Nat → Nat → Int32) (hM : MW G w M0 V A) (S : QS) (hR : RM S V A) (hL : WB S) (i : Nat) (hi : i < sn S) : XM l yX12_holder wsX12_holder (rmD 1) N0 G [.ref M0, .int (nI i)] w vI (fun r w1 => nI ((sp S i).getD 0 0) = r ∧ w = w1) 0 0 := by
  refine XM.of (cc := cX12_holder) (maxL := 2) (ret := (some .int)) (by decide) rfl (Nat.le_of_ble_eq_true rfl) ?_
  intro p e s m below meth c hx hb hr hlk hin0 hml hown hts hN hw hG hS ls hl
  have hown : s.vm.findClass RX12 = some m.cls := hown
  have hiX12 : ∀ x ∈ u_ws RX12 TX12 37, x ∈ wsX12_holder := by decide +kernel
  have hlnk0 := hts (.fieldLink RX12 16 "LentQuillModel" "handOf" "[I") (by decide +kernel)
  have hlnk1 := hts (.fieldLink RX12 19 "LentQuillModel" "lentOf" "[I") (by decide +kernel)
  have hl : lh ls 2 [some (.ref M0), some (.int (nI i))] := hl
  obtain ⟨hm0, ⟨hv3, hv4, hv5, hv6, hv8, hv9, hv11, hv12, hv15, hv18, hv19, hv20, hv24, hv30, hv31, hv32, hv33, hv34, hv35⟩, ha1, ha2, ha3, ha4, ha5, ha6, ha7, ha8, ha9, ha10, ha11, ha12, ha13, ha14, ha15, ha16, ha17, ha18, ha19⟩ := id hM
  obtain ⟨ht, hn, hlm, hdn, hhn, has, hpl, hkw, hRB, hpg, hkp⟩ := id hR
  obtain ⟨hn5, hl5, hkd, hsp, hd6, hdw, hh6, hg18, hgr, hIm⟩ := id hL
  obtain ⟨hlo, hha⟩ := hRB.1 i hi
  obtain ⟨hs1, hs41⟩ := hsp i hi
  have hh := hha ((sp S i).length - 1) (by show (sp S i).length - 1 < (sp S i).length; omega)
  refine xaload_n hx hb dX12_holder_0 hl rfl ?_
  refine xgetM hx hb hts hiX12 hown hG hw (by repeat first | assumption | exact wu_eq _ _ _ | refine wu_ne (by omega) ?_) 5 (by decide) hlnk0 (by repeat first | assumption | exact vu_eq _ _ _ | refine vu_ne (by decide) ?_) dX12_holder_1 ?_
  refine lv_bipush (v := nI 41) hx hb dX12_holder_4 (by decide) ?_
  refine xiload_n hx hb dX12_holder_6 hl rfl ?_
  first | refine xmul hx hb dX12_holder_7 ?_ | refine lv_imul hx hb dX12_holder_7 ?_
  refine xaload_n hx hb dX12_holder_8 hl rfl ?_
  refine xgetM hx hb hts hiX12 hown hG hw (by repeat first | assumption | exact wu_eq _ _ _ | refine wu_ne (by omega) ?_) 6 (by decide) hlnk1 (by repeat first | assumption | exact vu_eq _ _ _ | refine vu_ne (by decide) ?_) dX12_holder_9 ?_
  refine xiload_n hx hb dX12_holder_12 hl rfl ?_
  refine xiald hx hb hG hw (by repeat first | assumption | exact wu_eq _ _ _ | refine wu_ne (by omega) ?_) (by omega) (by omega) dX12_holder_13 ?_
  refine xtop (show A 4 i = nI ((sp S i).length - 1) from hlo) ?_
  first | refine xadd hx hb dX12_holder_14 ?_ | refine lv_iadd hx hb dX12_holder_14 ?_
  refine xiald hx hb hG hw (by repeat first | assumption | exact wu_eq _ _ _ | refine wu_ne (by omega) ?_) (by omega) (by omega) dX12_holder_15 ?_
  refine xtop (show A 3 (41 * i + ((sp S i).length - 1)) = nI ((sp S i).getD 0 0) by rw [hh]; show nI ((sp S i).getD ((sp S i).length - 1 - ((sp S i).length - 1)) 0) = _; rw [Nat.sub_self]) ?_
  exact xiret hx hb hr hlk hw hS dX12_holder_16 ⟨rfl, rfl⟩
set_option maxHeartbeats 4000000 in
set_option maxRecDepth 100000 in
theorem kX12_blank (l : Launch) (N0 : Nat) (G : XG) (w : Wd) (M0 : Nat) (V : Nat → Value) (A : Nat → Nat → Int32) (hM : MW G w M0 V A) (S : QS) (hR : RM S V A) (hL : WB S) : XM l yX12_blank wsX12_blank (rmD 1) N0 G [.ref M0] w vI (fun r w1 => nI (sg S).length = r ∧ (∃ V1, MW G w1 M0 V1 A ∧ RM (blankS S) V1 A) ∧ Out w w1 M0 (M0 + 20)) 0 0 := by
  refine XM.of (cc := cX12_blank) (maxL := 2) (ret := (some .int)) (by decide) rfl (Nat.le_of_ble_eq_true rfl) ?_
  intro p e s m below meth c hx hb hr hlk hin0 hml hown hts hN hw hG hS ls hl
  have hown : s.vm.findClass RX12 = some m.cls := hown
  have hiX12 : ∀ x ∈ u_ws RX12 TX12 37, x ∈ wsX12_blank := by decide +kernel
  have hlnk0 := hts (.fieldLink RX12 72 "LentQuillModel" "pageLength" "I") (by decide +kernel)
  have hl : lh ls 2 [some (.ref M0), none] := hl
  obtain ⟨hm0, ⟨hv3, hv4, hv5, hv6, hv8, hv9, hv11, hv12, hv15, hv18, hv19, hv20, hv24, hv30, hv31, hv32, hv33, hv34, hv35⟩, ha1, ha2, ha3, ha4, ha5, ha6, ha7, ha8, ha9, ha10, ha11, ha12, ha13, ha14, ha15, ha16, ha17, ha18, ha19⟩ := id hM
  obtain ⟨ht, hn, hlm, hdn, hhn, has, hpl, hkw, hRB, hpg, hkp⟩ := id hR
  obtain ⟨hn5, hl5, hkd, hsp, hd6, hdw, hh6, hg18, hgr, hIm⟩ := id hL
  refine xaload_n hx hb dX12_blank_0 hl rfl ?_
  refine xgetM hx hb hts hiX12 hown hG hw (by repeat first | assumption | exact wu_eq _ _ _ | refine wu_ne (by omega) ?_) 14 (by decide) hlnk0 (by repeat first | assumption | exact vu_eq _ _ _ | refine vu_ne (by decide) ?_) dX12_blank_1 ?_
  refine xistore_n hx hb dX12_blank_4 hl (by decide) rfl (fun ls hl => ?_)
  refine xaload_n hx hb dX12_blank_5 hl rfl ?_
  refine lv_iconst (v := nI 0) hx hb dX12_blank_6 (by decide) ?_
  refine xputM (ty := .int) hx hb hts hiX12 hown hG hw hS (by repeat first | assumption | exact wu_eq _ _ _ | refine wu_ne (by omega) ?_) 14 (by decide) hlnk0 rfl (by decide +kernel) rfl rfl dX12_blank_7 (fun H locs hzz hw hS => ?_)
  refine xiload_n hx hb dX12_blank_10 hl rfl ?_
  exact xiret hx hb hr hlk hw hS dX12_blank_11 ⟨rfl, ⟨_, hM.put (.int (nI 0)) (by decide), rm_blank hR⟩, Out.rf.wu (Nat.le_refl _) (by omega)⟩
