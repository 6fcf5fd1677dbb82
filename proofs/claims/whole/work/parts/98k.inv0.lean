/-! ===== the first heap ===== -/
theorem cF_zero {h : z_H} (hz : ∀ t, gR h 7080 t 5 = 0) : ∀ n, cF h n = 0 := by
  intro n
  induction n with
  | zero => rfl
  | succ n ih =>
    show cF h n + (if gR h 7080 n 5 = 0 then 0 else 1) = 0
    rw [ih, hz n, if_pos rfl]
theorem inv0 (L : Nat) (xs : Nat → Int32) : Inv (bld L xs io169) L xs := by
  have zI : ∀ p i k, p ≠ 7 → noI io169 p = true → gI (bld L xs io169) p i k = nI 0 := fun p i k h1 h2 => gI_b h1 (lI_no _ _ _ h2)
  have zV : ∀ p i, noV io169 p = true → gV (bld L xs io169) p i = false := fun p i h2 => gV_b (lV_no _ _ h2)
  have zR : ∀ p i k, noR io169 p = true → gR (bld L xs io169) p i k = 0 := fun p i k h2 => gR_b (lR_no _ _ _ h2)
  have hm : ∀ x ∈ [2, 3, 4, 5, 6, 7, 10, 11, 12, 13, 16, 17, 18, 19, 21, 22, 24, 25, 27, 28, 29, 31, 32, 33, 34, 36, 38, 41, 42, 43, 45, 46, 47, 48], lR io169 49100 0 x = 1 := by decide +kernel
  have hc : ∀ x ∈ [(10090, 0), (10090, 1), (10090, 2), (10090, 3), (10090, 4), (10090, 5), (10090, 6), (9010, 0), (9010, 1), (9010, 6), (9010, 7), (9010, 8), (6020, 2), (6020, 3), (6020, 4), (6020, 5), (11030, 2), (11030, 4), (11030, 5), (11030, 6), (11030, 7), (11030, 8), (11030, 9), (11030, 10), (8050, 3), (8050, 4), (8050, 5), (8050, 6), (4070, 0), (4070, 1)], lR io169 x.1 0 x.2 = 1 := by decide +kernel
  have hs : ∀ s, s < 4 → lR io169 4425 0 s = s + 1 ∧ lR io169 3060 s 2 = s + 1 := by decide +kernel
  have h6 : ∀ i, i < 100 → lV io169 6000 i = false := by decide +kernel
  have h8 : ∀ p, p < 8 → lgI io169 8241 0 p = nI 1000 ∧ lgI io169 8601 0 p = nI 1000 := by decide +kernel
  have z5 : ∀ t, gR (bld L xs io169) 7080 t 5 = 0 := fun t => zR _ _ _ (by decide +kernel)
  have n42 : gN (bld L xs io169) 42 = 0 := gN_b (by decide) (by decide +kernel)
  refine ⟨(17, 0, fun _ _ => 0, 0, fun _ => 0, fun t => 2 ^ t, fun _ => [], fun _ _ => 0), ?_, ?_, ?_, ?_, ?_, ?_, ?_, ?_, ?_, ?_, ?_, ?_, ?_, ?_, ?_, ?_⟩
  · exact fun k hk => gR_b (hm k (List.contains_iff_mem.mp hk))
  · exact ⟨fun p k hk => gR_b (hc (p, k) (List.contains_iff_mem.mp hk)), gR_b (by decide +kernel), fun s h => ⟨gR_b (hs s h).1, gR_b (hs s h).2⟩⟩
  · refine ⟨?_, fun k => gI_b7 _ k (by decide +kernel)⟩
    rw [gN_bl, show lgN io169 7 = 0 by decide +kernel, if_pos rfl, Nat.zero_add]
  · show gI (bld L xs io169) 10090 0 9 = gI (bld L xs io169) 49100 0 35 + 0
    rw [gI_b (v := nI 0) (by decide) (by decide +kernel), gI_b (p := 49100) (v := nI 0) (by decide) (by decide +kernel)]
    rfl
  · exact gI_b (by decide) (by decide +kernel)
  · exact ⟨0, fun _ => 0, by decide, gI_b (by decide) (by decide +kernel), gI_b (by decide) (by decide +kernel), fun k hk => absurd hk (Nat.not_lt_zero _)⟩
  · exact fun s _ => ⟨0, 0, Or.inl rfl, by decide, zI _ _ _ (by decide) (by decide +kernel), zI _ _ _ (by decide) (by decide +kernel), zI _ _ _ (by decide) (by decide +kernel), zI _ _ _ (by decide) (by decide +kernel), fun k _ => (zI _ _ _ (by decide) (by decide +kernel)).trans (zI 48671 0 (12 * s + k) (by decide) (by decide +kernel)).symm⟩
  · have n51 : gN (bld L xs io169) 51 = 0 := gN_b (by decide) (by decide +kernel)
    have n15 : gN (bld L xs io169) 15 = 0 := gN_b (by decide) (by decide +kernel)
    have n16 : gN (bld L xs io169) 16 = 0 := gN_b (by decide) (by decide +kernel)
    have c1 : lC io169 ≤ 200 := by decide +kernel
    have c2 : lS io169 ≤ 4000 := by decide +kernel
    unfold iRm
    rw [(gC_bl io169).1, (gC_bl io169).2, n51, n15, n16, n42]
    omega
  · exact ⟨gI_b (by decide) (by decide +kernel), gI_b (by decide) (by decide +kernel), by decide⟩
  · exact ⟨gI_b (by decide) (by decide +kernel), gI_b (by decide) (by decide +kernel), by decide, fun j hj => absurd hj (Nat.not_lt_zero _), gN_b (by decide) (by decide +kernel), gN_b (by decide) (by decide +kernel), gN_b (by decide) (by decide +kernel), fun i _ hi => ⟨zV _ _ (by decide +kernel), zV _ _ (by decide +kernel), gV_b (h6 i hi)⟩⟩
  · exact ⟨gI_b (by decide) (by decide +kernel), gI_b (by decide) (by decide +kernel), by decide, fun t ht => absurd ht (Nat.not_lt_zero _), fun t => ⟨Nat.zero_le _, (Nat.zero_add _).symm⟩, fun t _ _ => zI _ _ _ (by decide) (by decide +kernel), gN_b (by decide) (by decide +kernel), gN_b (by decide) (by decide +kernel), gN_b (by decide) (by decide +kernel), fun i _ => ⟨zV _ _ (by decide +kernel), zV _ _ (by decide +kernel), zV _ _ (by decide +kernel)⟩⟩
  · refine ⟨Or.inl ⟨gR_b (by decide +kernel), gN_b (by decide) (by decide +kernel), gN_b (by decide) (by decide +kernel), zV _ _ (by decide +kernel), zV _ _ (by decide +kernel)⟩, ?_, fun i _ => zV _ _ (by decide +kernel), fun t => ?_, fun t t' h1 => absurd (z5 t) h1, fun t _ => z5 t, fun t ht => absurd ht (Nat.not_lt_zero _)⟩
    · rw [n42, cF_zero z5]
    · rw [z5 t]; exact Nat.zero_le _
  · exact ⟨0, 0, fun _ => 0, fun _ => 0, fun _ => 0, fun _ => none, by decide, by decide, gI_b (by decide) (by decide +kernel), gI_b (by decide) (by decide +kernel), gI_b (by decide) (by decide +kernel), gI_b (by decide) (by decide +kernel), fun k hk => absurd hk (Nat.not_lt_zero _), fun k hk => absurd hk (Nat.not_lt_zero _)⟩
  · exact ⟨0, fun _ => [], fun _ => [], by decide, gI_b (by decide) (by decide +kernel), gI_b (by decide) (by decide +kernel), fun k hk => absurd hk (Nat.not_lt_zero _), Or.inl (gI_b (by decide) (by decide +kernel)), Or.inl (gI_b (by decide) (by decide +kernel))⟩
  · exact ⟨fun _ => 0, fun _ => 1000, 0, fun _ => 0, fun _ => 0, fun _ => 0, fun k _ => ⟨Nat.succ_pos 9, zI _ _ _ (by decide) (by decide +kernel), zI _ _ _ (by decide) (by decide +kernel)⟩, fun _ _ => rfl, fun p hp => ⟨Nat.le_refl _, gI_b (by decide) (h8 p hp).1, gI_b (by decide) (h8 p hp).2⟩, by decide, gI_b (by decide) (by decide +kernel), gI_b (by decide) (by decide +kernel), fun k hk => absurd hk (Nat.not_lt_zero _), Or.inl (gI_b (by decide) (by decide +kernel))⟩
  · exact ⟨0, fun _ => [], by decide, gI_b (by decide) (by decide +kernel), gI_b (by decide) (by decide +kernel), fun k hk => absurd hk (Nat.not_lt_zero _)⟩
