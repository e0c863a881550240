/-! the class: what a lamp drinks -/
theorem dr_eq {k o m : Int32} (ho : inR 0 999 o) (hm : inR 0 9999 m) : s_drC k o m = s_drink k o m := by
  have hd : (m / nI 10).toInt = m.toInt / 10 := by
    rw [lg_idiv_nonneg hm.1 (by rw [nI_toInt (by decide)]; decide), nI_toInt (by decide)]
    rfl
  have hd2 : inR 0 999 (m / nI 10) := by
    obtain ⟨a, b⟩ := hm
    unfold inR
    rw [hd]
    omega
  have h5 := nI_inR (k := 5) (by decide)
  have e5 := add_toI hd2 h5 (by decide) (by decide)
  have hle : ∀ x y : Int32, (if x ≤ y then x else y) = s_mn x y := fun x y => by
    unfold s_mn
    by_cases h : x ≤ y
    · rw [if_pos h, if_neg (i_nlt2 h)]
    · rw [if_neg h, if_pos (i_lt2 h)]
  unfold s_drC s_drink
  by_cases h4 : k = nI 4
  · subst h4
    rw [if_pos rfl, if_neg (show ¬ nI 4 = nI 5 by decide), if_pos rfl]
    show _ = if m / nI 10 + nI 5 ≤ o then m / nI 10 + nI 5 else o
    rw [hle, ← Int32.toInt_inj]
    have h6 : inR 0 999 (s_mn (m / nI 10) o) := by
      obtain ⟨a, b⟩ := hd2
      obtain ⟨c, d⟩ := ho
      unfold inR
      rw [mn_toI]
      split <;> omega
    rw [mn_toI, mn_toI, add_toI h6 h5 (by decide) (by decide), mn_toI, e5, nI_toInt (by decide)]
    repeat (first | omega | split)
  · rw [if_neg h4]
    by_cases h5' : k = nI 5
    · rw [if_pos h5', if_pos h5']
      show _ = if nI 0 ≤ o then nI 0 else o
      rw [if_pos (by rw [Int32.le_iff_toInt_le, nI_toInt (by decide)]; exact ho.1)]
    · rw [if_neg h5', if_neg h5', if_neg h4]
      show _ = if m / nI 10 ≤ o then m / nI 10 else o
      rw [hle]
