/-! the text: both readers are one -/
theorem sameJ_lt {ch : Int → Int} {len a k : Int} {j j' c p : Int} (n : Nat) (hj : j < sL k) (hc : sCh k j = c) (hj' : j + 1 = j') (hp : a + j = p) : sameJ ch len a k (n + 1) j = if sgF ch len p = c then sameJ ch len a k n j' else j := by
  subst hc; subst hj'; subst hp
  by_cases h : sgF ch len (a + j) = sCh k j
  · rw [if_pos h]
    exact same_e n ⟨hj, h⟩
  · rw [if_neg h]
    exact same_x n (fun q => h q.2)
theorem sameJ_end {ch : Int → Int} {len a k j : Int} (n : Nat) (h : ¬ j < sL k) : sameJ ch len a k (n + 1) j = j := same_x n (fun q => h q.1)
theorem sm0 {ch : Int → Int} {len a : Int} : sameF ch len a 0 = if sgF ch len (a) = 115 then (if sgF ch len (a + 1) = 111 then (if sgF ch len (a + 1 + 1) = 97 then (if sgF ch len (a + 1 + 1 + 1) = 107 then (4) else 3) else 2) else 1) else 0 := by
  unfold sameF
  rw [sameJ_lt (j := 0) (j' := 1) (c := 115) (p := a) 5 (by decide) rfl rfl (by omega), sameJ_lt (j := 1) (j' := 2) (c := 111) (p := a + 1) 4 (by decide) rfl rfl (by omega), sameJ_lt (j := 2) (j' := 3) (c := 97) (p := a + 1 + 1) 3 (by decide) rfl rfl (by omega), sameJ_lt (j := 3) (j' := 4) (c := 107) (p := a + 1 + 1 + 1) 2 (by decide) rfl rfl (by omega), sameJ_end (j := 4) 1 (by decide)]
theorem sm1 {ch : Int → Int} {len a : Int} : sameF ch len a 1 = if sgF ch len (a) = 98 then (if sgF ch len (a + 1) = 97 then (if sgF ch len (a + 1 + 1) = 99 then (if sgF ch len (a + 1 + 1 + 1) = 107 then (4) else 3) else 2) else 1) else 0 := by
  unfold sameF
  rw [sameJ_lt (j := 0) (j' := 1) (c := 98) (p := a) 5 (by decide) rfl rfl (by omega), sameJ_lt (j := 1) (j' := 2) (c := 97) (p := a + 1) 4 (by decide) rfl rfl (by omega), sameJ_lt (j := 2) (j' := 3) (c := 99) (p := a + 1 + 1) 3 (by decide) rfl rfl (by omega), sameJ_lt (j := 3) (j' := 4) (c := 107) (p := a + 1 + 1 + 1) 2 (by decide) rfl rfl (by omega), sameJ_end (j := 4) 1 (by decide)]
theorem sm2 {ch : Int → Int} {len a : Int} : sameF ch len a 2 = if sgF ch len (a) = 116 then (if sgF ch len (a + 1) = 105 then (if sgF ch len (a + 1 + 1) = 108 then (if sgF ch len (a + 1 + 1 + 1) = 116 then (4) else 3) else 2) else 1) else 0 := by
  unfold sameF
  rw [sameJ_lt (j := 0) (j' := 1) (c := 116) (p := a) 5 (by decide) rfl rfl (by omega), sameJ_lt (j := 1) (j' := 2) (c := 105) (p := a + 1) 4 (by decide) rfl rfl (by omega), sameJ_lt (j := 2) (j' := 3) (c := 108) (p := a + 1 + 1) 3 (by decide) rfl rfl (by omega), sameJ_lt (j := 3) (j' := 4) (c := 116) (p := a + 1 + 1 + 1) 2 (by decide) rfl rfl (by omega), sameJ_end (j := 4) 1 (by decide)]
theorem sm3 {ch : Int → Int} {len a : Int} : sameF ch len a 3 = if sgF ch len (a) = 115 then (if sgF ch len (a + 1) = 112 then (if sgF ch len (a + 1 + 1) = 108 then (if sgF ch len (a + 1 + 1 + 1) = 105 then (if sgF ch len (a + 1 + 1 + 1 + 1) = 116 then (5) else 4) else 3) else 2) else 1) else 0 := by
  unfold sameF
  rw [sameJ_lt (j := 0) (j' := 1) (c := 115) (p := a) 5 (by decide) rfl rfl (by omega), sameJ_lt (j := 1) (j' := 2) (c := 112) (p := a + 1) 4 (by decide) rfl rfl (by omega), sameJ_lt (j := 2) (j' := 3) (c := 108) (p := a + 1 + 1) 3 (by decide) rfl rfl (by omega), sameJ_lt (j := 3) (j' := 4) (c := 105) (p := a + 1 + 1 + 1) 2 (by decide) rfl rfl (by omega), sameJ_lt (j := 4) (j' := 5) (c := 116) (p := a + 1 + 1 + 1 + 1) 1 (by decide) rfl rfl (by omega), sameJ_end (j := 5) 0 (by decide)]
theorem sm4 {ch : Int → Int} {len a : Int} : sameF ch len a 4 = if sgF ch len (a) = 104 then (if sgF ch len (a + 1) = 101 then (if sgF ch len (a + 1 + 1) = 97 then (if sgF ch len (a + 1 + 1 + 1) = 114 then (4) else 3) else 2) else 1) else 0 := by
  unfold sameF
  rw [sameJ_lt (j := 0) (j' := 1) (c := 104) (p := a) 5 (by decide) rfl rfl (by omega), sameJ_lt (j := 1) (j' := 2) (c := 101) (p := a + 1) 4 (by decide) rfl rfl (by omega), sameJ_lt (j := 2) (j' := 3) (c := 97) (p := a + 1 + 1) 3 (by decide) rfl rfl (by omega), sameJ_lt (j := 3) (j' := 4) (c := 114) (p := a + 1 + 1 + 1) 2 (by decide) rfl rfl (by omega), sameJ_end (j := 4) 1 (by decide)]
theorem twK_eq {ch : Int → Int} {len a : Int} : twK ch len a = if sameF ch len a 0 = 4 then 0 else if sameF ch len a 1 = 4 then 1 else if sameF ch len a 2 = 4 then 2 else if sameF ch len a 3 = 5 then 3 else if sameF ch len a 4 = 4 then 4 else -1 := rfl
theorem lg_eq {ch : Int → Int} {len a : Int} : lgM ch len a 5 = max (max (max (max (max 0 (sameF ch len a 0)) (sameF ch len a 1)) (sameF ch len a 2)) (sameF ch len a 3)) (sameF ch len a 4) := rfl
theorem tw_eq {ch : Int → Int} {len a o : Int} : twF ch len (a, 0, o) = if (wdN ch len a).2 = 0 then (4, (wdN ch len a).1, 1, o) else (wkK ch len a, (wdN ch len a).1, 0, o) := by
  have fin0 : ∀ e : Int, twK ch len a = -1 → lgM ch len a 5 = e → (wdN ch len a) = (a + e, 0) → twF ch len (a, 0, o) = if (wdN ch len a).2 = 0 then (4, (wdN ch len a).1, 1, o) else (wkK ch len a, (wdN ch len a).1, 0, o) := fun e h1 h2 h3 => by
    rw [tw_a rfl h1, h2, h3, if_pos rfl]
  have fin1 : ∀ k e : Int, twK ch len a = k → ¬ k = -1 → sL k = e → wkK ch len a = k → (wdN ch len a) = (a + e, 1) → twF ch len (a, 0, o) = if (wdN ch len a).2 = 0 then (4, (wdN ch len a).1, 1, o) else (wkK ch len a, (wdN ch len a).1, 0, o) := fun k e h1 h2 h3 h4 h5 => by
    rw [tw_b rfl (by rw [h1]; exact h2), h1, h3, h4, h5, if_neg (show ¬ (1 : Int) = 0 by decide)]
  rcases Decidable.em (sgF ch len a = 115) with h0 | n0
  · by_cases h1b : sgF ch len (a + 1) = 112
    · have h1 := h1b
      by_cases h2 : sgF ch len (a + 1 + 1) = 108
      · by_cases h3 : sgF ch len (a + 1 + 1 + 1) = 105
        · by_cases h4 : sgF ch len (a + 1 + 1 + 1 + 1) = 116
          · have x0 : sameF ch len a 0 = 1 := by rw [sm0, if_pos h0, if_neg (by omega)]
            have x1 : sameF ch len a 1 = 0 := by rw [sm1, if_neg (by omega)]
            have x2 : sameF ch len a 2 = 0 := by rw [sm2, if_neg (by omega)]
            have x3 : sameF ch len a 3 = 5 := by rw [sm3, if_pos h0, if_pos h1, if_pos h2, if_pos h3, if_pos h4]
            have x4 : sameF ch len a 4 = 0 := by rw [sm4, if_neg (by omega)]
            have w : wdN ch len a = (a + 5, 1) := by unfold wdN; rw [if_pos h0, if_pos h1, f4_e h1 h2 h3 h4] <;> (rw [Prod.mk.injEq]; omega)
            exact fin1 3 5 (by rw [twK_eq, x0, x1, x2, x3, x4]; rfl) (by decide) rfl (by unfold wkK; rw [if_pos h0, if_pos h1]) w
          · have x0 : sameF ch len a 0 = 1 := by rw [sm0, if_pos h0, if_neg (by omega)]
            have x1 : sameF ch len a 1 = 0 := by rw [sm1, if_neg (by omega)]
            have x2 : sameF ch len a 2 = 0 := by rw [sm2, if_neg (by omega)]
            have x3 : sameF ch len a 3 = 4 := by rw [sm3, if_pos h0, if_pos h1, if_pos h2, if_pos h3, if_neg (by omega)]
            have x4 : sameF ch len a 4 = 0 := by rw [sm4, if_neg (by omega)]
            have w : wdN ch len a = (a + 4, 0) := by unfold wdN; rw [if_pos h0, if_pos h1, f4_d h1 h2 h3 h4] <;> (rw [Prod.mk.injEq]; omega)
            exact fin0 4 (by rw [twK_eq, x0, x1, x2, x3, x4]; rfl) (by rw [lg_eq, x0, x1, x2, x3, x4]; rfl) w
        · have x0 : sameF ch len a 0 = 1 := by rw [sm0, if_pos h0, if_neg (by omega)]
          have x1 : sameF ch len a 1 = 0 := by rw [sm1, if_neg (by omega)]
          have x2 : sameF ch len a 2 = 0 := by rw [sm2, if_neg (by omega)]
          have x3 : sameF ch len a 3 = 3 := by rw [sm3, if_pos h0, if_pos h1, if_pos h2, if_neg (by omega)]
          have x4 : sameF ch len a 4 = 0 := by rw [sm4, if_neg (by omega)]
          have w : wdN ch len a = (a + 3, 0) := by unfold wdN; rw [if_pos h0, if_pos h1, f4_c h1 h2 h3] <;> (rw [Prod.mk.injEq]; omega)
          exact fin0 3 (by rw [twK_eq, x0, x1, x2, x3, x4]; rfl) (by rw [lg_eq, x0, x1, x2, x3, x4]; rfl) w
      · have x0 : sameF ch len a 0 = 1 := by rw [sm0, if_pos h0, if_neg (by omega)]
        have x1 : sameF ch len a 1 = 0 := by rw [sm1, if_neg (by omega)]
        have x2 : sameF ch len a 2 = 0 := by rw [sm2, if_neg (by omega)]
        have x3 : sameF ch len a 3 = 2 := by rw [sm3, if_pos h0, if_pos h1, if_neg (by omega)]
        have x4 : sameF ch len a 4 = 0 := by rw [sm4, if_neg (by omega)]
        have w : wdN ch len a = (a + 2, 0) := by unfold wdN; rw [if_pos h0, if_pos h1, f4_b h1 h2] <;> (rw [Prod.mk.injEq]; omega)
        exact fin0 2 (by rw [twK_eq, x0, x1, x2, x3, x4]; rfl) (by rw [lg_eq, x0, x1, x2, x3, x4]; rfl) w
    · by_cases h1 : sgF ch len (a + 1) = 111
      · by_cases h2 : sgF ch len (a + 1 + 1) = 97
        · by_cases h3 : sgF ch len (a + 1 + 1 + 1) = 107
          · have x0 : sameF ch len a 0 = 4 := by rw [sm0, if_pos h0, if_pos h1, if_pos h2, if_pos h3]
            have x1 : sameF ch len a 1 = 0 := by rw [sm1, if_neg (by omega)]
            have x2 : sameF ch len a 2 = 0 := by rw [sm2, if_neg (by omega)]
            have x3 : sameF ch len a 3 = 1 := by rw [sm3, if_pos h0, if_neg (by omega)]
            have x4 : sameF ch len a 4 = 0 := by rw [sm4, if_neg (by omega)]
            have w : wdN ch len a = (a + 4, 1) := by unfold wdN; rw [if_pos h0, if_neg h1b, f3_d h1 h2 h3] <;> (rw [Prod.mk.injEq]; omega)
            exact fin1 0 4 (by rw [twK_eq, x0, x1, x2, x3, x4]; rfl) (by decide) rfl (by unfold wkK; rw [if_pos h0, if_neg h1b]) w
          · have x0 : sameF ch len a 0 = 3 := by rw [sm0, if_pos h0, if_pos h1, if_pos h2, if_neg (by omega)]
            have x1 : sameF ch len a 1 = 0 := by rw [sm1, if_neg (by omega)]
            have x2 : sameF ch len a 2 = 0 := by rw [sm2, if_neg (by omega)]
            have x3 : sameF ch len a 3 = 1 := by rw [sm3, if_pos h0, if_neg (by omega)]
            have x4 : sameF ch len a 4 = 0 := by rw [sm4, if_neg (by omega)]
            have w : wdN ch len a = (a + 3, 0) := by unfold wdN; rw [if_pos h0, if_neg h1b, f3_c h1 h2 h3] <;> (rw [Prod.mk.injEq]; omega)
            exact fin0 3 (by rw [twK_eq, x0, x1, x2, x3, x4]; rfl) (by rw [lg_eq, x0, x1, x2, x3, x4]; rfl) w
        · have x0 : sameF ch len a 0 = 2 := by rw [sm0, if_pos h0, if_pos h1, if_neg (by omega)]
          have x1 : sameF ch len a 1 = 0 := by rw [sm1, if_neg (by omega)]
          have x2 : sameF ch len a 2 = 0 := by rw [sm2, if_neg (by omega)]
          have x3 : sameF ch len a 3 = 1 := by rw [sm3, if_pos h0, if_neg (by omega)]
          have x4 : sameF ch len a 4 = 0 := by rw [sm4, if_neg (by omega)]
          have w : wdN ch len a = (a + 2, 0) := by unfold wdN; rw [if_pos h0, if_neg h1b, f3_b h1 h2] <;> (rw [Prod.mk.injEq]; omega)
          exact fin0 2 (by rw [twK_eq, x0, x1, x2, x3, x4]; rfl) (by rw [lg_eq, x0, x1, x2, x3, x4]; rfl) w
      · have x0 : sameF ch len a 0 = 1 := by rw [sm0, if_pos h0, if_neg (by omega)]
        have x1 : sameF ch len a 1 = 0 := by rw [sm1, if_neg (by omega)]
        have x2 : sameF ch len a 2 = 0 := by rw [sm2, if_neg (by omega)]
        have x3 : sameF ch len a 3 = 1 := by rw [sm3, if_pos h0, if_neg (by omega)]
        have x4 : sameF ch len a 4 = 0 := by rw [sm4, if_neg (by omega)]
        have w : wdN ch len a = (a + 1, 0) := by unfold wdN; rw [if_pos h0, if_neg h1b, f3_a h1] <;> (rw [Prod.mk.injEq]; omega)
        exact fin0 1 (by rw [twK_eq, x0, x1, x2, x3, x4]; rfl) (by rw [lg_eq, x0, x1, x2, x3, x4]; rfl) w
  · rcases Decidable.em (sgF ch len a = 98) with h0 | n1
    · by_cases h1 : sgF ch len (a + 1) = 97
      · by_cases h2 : sgF ch len (a + 1 + 1) = 99
        · by_cases h3 : sgF ch len (a + 1 + 1 + 1) = 107
          · have x0 : sameF ch len a 0 = 0 := by rw [sm0, if_neg (by omega)]
            have x1 : sameF ch len a 1 = 4 := by rw [sm1, if_pos h0, if_pos h1, if_pos h2, if_pos h3]
            have x2 : sameF ch len a 2 = 0 := by rw [sm2, if_neg (by omega)]
            have x3 : sameF ch len a 3 = 0 := by rw [sm3, if_neg (by omega)]
            have x4 : sameF ch len a 4 = 0 := by rw [sm4, if_neg (by omega)]
            have w : wdN ch len a = (a + 4, 1) := by unfold wdN; rw [if_neg n0, if_pos h0, f4_e h0 h1 h2 h3] <;> (rw [Prod.mk.injEq]; omega)
            exact fin1 1 4 (by rw [twK_eq, x0, x1, x2, x3, x4]; rfl) (by decide) rfl (by unfold wkK; rw [if_neg (by omega), if_pos h0]) w
          · have x0 : sameF ch len a 0 = 0 := by rw [sm0, if_neg (by omega)]
            have x1 : sameF ch len a 1 = 3 := by rw [sm1, if_pos h0, if_pos h1, if_pos h2, if_neg (by omega)]
            have x2 : sameF ch len a 2 = 0 := by rw [sm2, if_neg (by omega)]
            have x3 : sameF ch len a 3 = 0 := by rw [sm3, if_neg (by omega)]
            have x4 : sameF ch len a 4 = 0 := by rw [sm4, if_neg (by omega)]
            have w : wdN ch len a = (a + 3, 0) := by unfold wdN; rw [if_neg n0, if_pos h0, f4_d h0 h1 h2 h3] <;> (rw [Prod.mk.injEq]; omega)
            exact fin0 3 (by rw [twK_eq, x0, x1, x2, x3, x4]; rfl) (by rw [lg_eq, x0, x1, x2, x3, x4]; rfl) w
        · have x0 : sameF ch len a 0 = 0 := by rw [sm0, if_neg (by omega)]
          have x1 : sameF ch len a 1 = 2 := by rw [sm1, if_pos h0, if_pos h1, if_neg (by omega)]
          have x2 : sameF ch len a 2 = 0 := by rw [sm2, if_neg (by omega)]
          have x3 : sameF ch len a 3 = 0 := by rw [sm3, if_neg (by omega)]
          have x4 : sameF ch len a 4 = 0 := by rw [sm4, if_neg (by omega)]
          have w : wdN ch len a = (a + 2, 0) := by unfold wdN; rw [if_neg n0, if_pos h0, f4_c h0 h1 h2] <;> (rw [Prod.mk.injEq]; omega)
          exact fin0 2 (by rw [twK_eq, x0, x1, x2, x3, x4]; rfl) (by rw [lg_eq, x0, x1, x2, x3, x4]; rfl) w
      · have x0 : sameF ch len a 0 = 0 := by rw [sm0, if_neg (by omega)]
        have x1 : sameF ch len a 1 = 1 := by rw [sm1, if_pos h0, if_neg (by omega)]
        have x2 : sameF ch len a 2 = 0 := by rw [sm2, if_neg (by omega)]
        have x3 : sameF ch len a 3 = 0 := by rw [sm3, if_neg (by omega)]
        have x4 : sameF ch len a 4 = 0 := by rw [sm4, if_neg (by omega)]
        have w : wdN ch len a = (a + 1, 0) := by unfold wdN; rw [if_neg n0, if_pos h0, f4_b h0 h1] <;> (rw [Prod.mk.injEq]; omega)
        exact fin0 1 (by rw [twK_eq, x0, x1, x2, x3, x4]; rfl) (by rw [lg_eq, x0, x1, x2, x3, x4]; rfl) w
    · rcases Decidable.em (sgF ch len a = 116) with h0 | n2
      · by_cases h1 : sgF ch len (a + 1) = 105
        · by_cases h2 : sgF ch len (a + 1 + 1) = 108
          · by_cases h3 : sgF ch len (a + 1 + 1 + 1) = 116
            · have x0 : sameF ch len a 0 = 0 := by rw [sm0, if_neg (by omega)]
              have x1 : sameF ch len a 1 = 0 := by rw [sm1, if_neg (by omega)]
              have x2 : sameF ch len a 2 = 4 := by rw [sm2, if_pos h0, if_pos h1, if_pos h2, if_pos h3]
              have x3 : sameF ch len a 3 = 0 := by rw [sm3, if_neg (by omega)]
              have x4 : sameF ch len a 4 = 0 := by rw [sm4, if_neg (by omega)]
              have w : wdN ch len a = (a + 4, 1) := by unfold wdN; rw [if_neg n0, if_neg n1, if_pos h0, f4_e h0 h1 h2 h3] <;> (rw [Prod.mk.injEq]; omega)
              exact fin1 2 4 (by rw [twK_eq, x0, x1, x2, x3, x4]; rfl) (by decide) rfl (by unfold wkK; rw [if_neg (by omega), if_neg (by omega), if_pos h0]) w
            · have x0 : sameF ch len a 0 = 0 := by rw [sm0, if_neg (by omega)]
              have x1 : sameF ch len a 1 = 0 := by rw [sm1, if_neg (by omega)]
              have x2 : sameF ch len a 2 = 3 := by rw [sm2, if_pos h0, if_pos h1, if_pos h2, if_neg (by omega)]
              have x3 : sameF ch len a 3 = 0 := by rw [sm3, if_neg (by omega)]
              have x4 : sameF ch len a 4 = 0 := by rw [sm4, if_neg (by omega)]
              have w : wdN ch len a = (a + 3, 0) := by unfold wdN; rw [if_neg n0, if_neg n1, if_pos h0, f4_d h0 h1 h2 h3] <;> (rw [Prod.mk.injEq]; omega)
              exact fin0 3 (by rw [twK_eq, x0, x1, x2, x3, x4]; rfl) (by rw [lg_eq, x0, x1, x2, x3, x4]; rfl) w
          · have x0 : sameF ch len a 0 = 0 := by rw [sm0, if_neg (by omega)]
            have x1 : sameF ch len a 1 = 0 := by rw [sm1, if_neg (by omega)]
            have x2 : sameF ch len a 2 = 2 := by rw [sm2, if_pos h0, if_pos h1, if_neg (by omega)]
            have x3 : sameF ch len a 3 = 0 := by rw [sm3, if_neg (by omega)]
            have x4 : sameF ch len a 4 = 0 := by rw [sm4, if_neg (by omega)]
            have w : wdN ch len a = (a + 2, 0) := by unfold wdN; rw [if_neg n0, if_neg n1, if_pos h0, f4_c h0 h1 h2] <;> (rw [Prod.mk.injEq]; omega)
            exact fin0 2 (by rw [twK_eq, x0, x1, x2, x3, x4]; rfl) (by rw [lg_eq, x0, x1, x2, x3, x4]; rfl) w
        · have x0 : sameF ch len a 0 = 0 := by rw [sm0, if_neg (by omega)]
          have x1 : sameF ch len a 1 = 0 := by rw [sm1, if_neg (by omega)]
          have x2 : sameF ch len a 2 = 1 := by rw [sm2, if_pos h0, if_neg (by omega)]
          have x3 : sameF ch len a 3 = 0 := by rw [sm3, if_neg (by omega)]
          have x4 : sameF ch len a 4 = 0 := by rw [sm4, if_neg (by omega)]
          have w : wdN ch len a = (a + 1, 0) := by unfold wdN; rw [if_neg n0, if_neg n1, if_pos h0, f4_b h0 h1] <;> (rw [Prod.mk.injEq]; omega)
          exact fin0 1 (by rw [twK_eq, x0, x1, x2, x3, x4]; rfl) (by rw [lg_eq, x0, x1, x2, x3, x4]; rfl) w
      · rcases Decidable.em (sgF ch len a = 104) with h0 | n3
        · by_cases h1 : sgF ch len (a + 1) = 101
          · by_cases h2 : sgF ch len (a + 1 + 1) = 97
            · by_cases h3 : sgF ch len (a + 1 + 1 + 1) = 114
              · have x0 : sameF ch len a 0 = 0 := by rw [sm0, if_neg (by omega)]
                have x1 : sameF ch len a 1 = 0 := by rw [sm1, if_neg (by omega)]
                have x2 : sameF ch len a 2 = 0 := by rw [sm2, if_neg (by omega)]
                have x3 : sameF ch len a 3 = 0 := by rw [sm3, if_neg (by omega)]
                have x4 : sameF ch len a 4 = 4 := by rw [sm4, if_pos h0, if_pos h1, if_pos h2, if_pos h3]
                have w : wdN ch len a = (a + 4, 1) := by unfold wdN; rw [if_neg n0, if_neg n1, if_neg n2, if_pos h0, f4_e h0 h1 h2 h3] <;> (rw [Prod.mk.injEq]; omega)
                exact fin1 4 4 (by rw [twK_eq, x0, x1, x2, x3, x4]; rfl) (by decide) rfl (by unfold wkK; rw [if_neg (by omega), if_neg (by omega), if_neg (by omega), if_pos h0]) w
              · have x0 : sameF ch len a 0 = 0 := by rw [sm0, if_neg (by omega)]
                have x1 : sameF ch len a 1 = 0 := by rw [sm1, if_neg (by omega)]
                have x2 : sameF ch len a 2 = 0 := by rw [sm2, if_neg (by omega)]
                have x3 : sameF ch len a 3 = 0 := by rw [sm3, if_neg (by omega)]
                have x4 : sameF ch len a 4 = 3 := by rw [sm4, if_pos h0, if_pos h1, if_pos h2, if_neg (by omega)]
                have w : wdN ch len a = (a + 3, 0) := by unfold wdN; rw [if_neg n0, if_neg n1, if_neg n2, if_pos h0, f4_d h0 h1 h2 h3] <;> (rw [Prod.mk.injEq]; omega)
                exact fin0 3 (by rw [twK_eq, x0, x1, x2, x3, x4]; rfl) (by rw [lg_eq, x0, x1, x2, x3, x4]; rfl) w
            · have x0 : sameF ch len a 0 = 0 := by rw [sm0, if_neg (by omega)]
              have x1 : sameF ch len a 1 = 0 := by rw [sm1, if_neg (by omega)]
              have x2 : sameF ch len a 2 = 0 := by rw [sm2, if_neg (by omega)]
              have x3 : sameF ch len a 3 = 0 := by rw [sm3, if_neg (by omega)]
              have x4 : sameF ch len a 4 = 2 := by rw [sm4, if_pos h0, if_pos h1, if_neg (by omega)]
              have w : wdN ch len a = (a + 2, 0) := by unfold wdN; rw [if_neg n0, if_neg n1, if_neg n2, if_pos h0, f4_c h0 h1 h2] <;> (rw [Prod.mk.injEq]; omega)
              exact fin0 2 (by rw [twK_eq, x0, x1, x2, x3, x4]; rfl) (by rw [lg_eq, x0, x1, x2, x3, x4]; rfl) w
          · have x0 : sameF ch len a 0 = 0 := by rw [sm0, if_neg (by omega)]
            have x1 : sameF ch len a 1 = 0 := by rw [sm1, if_neg (by omega)]
            have x2 : sameF ch len a 2 = 0 := by rw [sm2, if_neg (by omega)]
            have x3 : sameF ch len a 3 = 0 := by rw [sm3, if_neg (by omega)]
            have x4 : sameF ch len a 4 = 1 := by rw [sm4, if_pos h0, if_neg (by omega)]
            have w : wdN ch len a = (a + 1, 0) := by unfold wdN; rw [if_neg n0, if_neg n1, if_neg n2, if_pos h0, f4_b h0 h1] <;> (rw [Prod.mk.injEq]; omega)
            exact fin0 1 (by rw [twK_eq, x0, x1, x2, x3, x4]; rfl) (by rw [lg_eq, x0, x1, x2, x3, x4]; rfl) w
        · have x0 : sameF ch len a 0 = 0 := by rw [sm0, if_neg (by omega)]
          have x1 : sameF ch len a 1 = 0 := by rw [sm1, if_neg (by omega)]
          have x2 : sameF ch len a 2 = 0 := by rw [sm2, if_neg (by omega)]
          have x3 : sameF ch len a 3 = 0 := by rw [sm3, if_neg (by omega)]
          have x4 : sameF ch len a 4 = 0 := by rw [sm4, if_neg (by omega)]
          have w : wdN ch len a = (a + 0, 0) := by unfold wdN; rw [if_neg n0, if_neg n1, if_neg n2, if_neg n3] <;> (rw [Prod.mk.injEq]; omega)
          exact fin0 0 (by rw [twK_eq, x0, x1, x2, x3, x4]; rfl) (by rw [lg_eq, x0, x1, x2, x3, x4]; rfl) w
theorem wd_eq {ch : Int → Int} {len a o : Int} (hc : ChOK ch len) (ha : 0 ≤ a ∧ a ≤ len) : (tkF ch len 58 (twF ch len (a, 0, o)).2 = ((wdX ch len a).1, (if (wdX ch len a).2 = 0 then 1 else 0), o)) ∧ (¬ (wdX ch len a).2 = 0 → (twF ch len (a, 0, o)).1 = wkK ch len a) := by
  rw [tw_eq]
  unfold wdX
  have hz := (wdN_R hc ha).2.1
  generalize wdN ch len a = W at hz
  obtain ⟨e, b⟩ := W
  dsimp only at hz ⊢
  by_cases hb : b = 0
  · subst hb
    rw [if_pos rfl, if_pos rfl]
    dsimp only
    rw [tk_c (by decide), if_pos rfl]
    exact ⟨rfl, fun q => absurd rfl q⟩
  · rw [if_neg hb, if_neg hb]
    dsimp only
    by_cases hs : sgF ch len e = 58
    · rw [if_pos hs, tk_a rfl hs, if_neg (show ¬ (1 : Int) = 0 by decide)]
      exact ⟨rfl, fun _ => rfl⟩
    · rw [if_neg hs, tk_b rfl hs, if_pos rfl]
      exact ⟨rfl, fun q => absurd rfl q⟩
theorem tn0 {ch : Int → Int} {len lo hi a o : Int} : tnF ch len lo hi 0 (a, 0, o) = (nuV ch len a, nuE ch len a, (if nuE ch len a = a then 1 else 0), (if o < 0 ∧ (nuV ch len a < lo ∨ hi < nuV ch len a) then a else o)) := by
  have hg : ngF ch len 0 a = 0 := if_neg (fun q => q.1 rfl)
  rw [tn_a rfl, hg, Int.add_zero, if_pos rfl]
  rfl
theorem nuW_eq {ch : Int → Int} {len lo hi a o : Int} (h : a < nuE ch len a) : (if o < 0 ∧ (nuV ch len a < lo ∨ hi < nuV ch len a) then a else o) = nuW ch len lo hi a o := by
  unfold nuW
  by_cases hq : o < 0 ∧ (nuV ch len a < lo ∨ hi < nuV ch len a)
  · rw [if_pos hq, if_pos ⟨hq.1, h, by omega⟩]
  · rw [if_neg hq, if_neg (fun z => hq ⟨z.1, by omega⟩)]
theorem nuW_ok {ch : Int → Int} {len lo hi a o : Int} (ha : 0 ≤ a) (h : a < nuE ch len a) (hw : nuW ch len lo hi a o < 0) : o < 0 ∧ lo ≤ nuV ch len a ∧ nuV ch len a ≤ hi := by
  unfold nuW at hw
  split at hw
  · omega
  · rename_i q
    by_cases ho : o < 0
    · have : lo ≤ nuV ch len a ∧ nuV ch len a ≤ hi := by
        apply Decidable.byContradiction
        intro z
        exact q ⟨ho, h, z⟩
      exact ⟨ho, this⟩
    · omega
theorem tn_br {ch : Int → Int} {len lo hi neg a o : Int} : tnF ch len lo hi neg (a, 1, o) = (0, a, 1, o) := tn_c (by decide)
theorem tk_br {ch : Int → Int} {len x a o : Int} : tkF ch len x (a, 1, o) = (a, 1, o) := tk_c (by decide)
/-- what one part leaves behind, on both sides -/
def RO (ch : Int → Int) (len fo a o : Int) (nb : Int → Int) : Prop :=
  ((mr_M ch len fo a o nb).1 = 0 → (roN ch len (a, 0, o)).2.2.1 = 1 ∧ (roN ch len (a, 0, o)).2.1 = (mr_M ch len fo a o nb).2.1) ∧
  (¬ (mr_M ch len fo a o nb).1 = 0 → (roN ch len (a, 0, o)).2 = ((mr_M ch len fo a o nb).2.1, 0, (mr_M ch len fo a o nb).2.2.1) ∧
    (roN ch len (a, 0, o)).1 = (wkK ch len a, (mr_M ch len fo a o nb).2.2.2 (3 * (fo % 12)), (mr_M ch len fo a o nb).2.2.2 (3 * (fo % 12) + 1), (mr_M ch len fo a o nb).2.2.2 (3 * (fo % 12) + 2)) ∧
    ((mr_M ch len fo a o nb).2.2.1 < 0 → o < 0 ∧ allowP (wkK ch len a) ((mr_M ch len fo a o nb).2.2.2 (3 * (fo % 12))) ((mr_M ch len fo a o nb).2.2.2 (3 * (fo % 12) + 1)) ((mr_M ch len fo a o nb).2.2.2 (3 * (fo % 12) + 2))) ∧
    (∀ j, ¬ (3 * (fo % 12) ≤ j ∧ j ≤ 3 * (fo % 12) + 2) → (mr_M ch len fo a o nb).2.2.2 j = nb j))
theorem ro_eq {ch : Int → Int} {len fo a o : Int} {nb : Int → Int} (hc : ChOK ch len) (ha : 0 ≤ a ∧ a ≤ len) : RO ch len fo a o nb := by
  obtain ⟨w1, w2⟩ := wd_eq (o := o) hc ha
  have q0 := wdX_R hc ha
  have hk := wk_R ch len a
  unfold RO roN
  dsimp only
  rw [w1]
  generalize hA : (wdX ch len a).1 = A0 at *
  have m0 : mr_0 ch len fo a o nb = (A0, o, zup nb (3 * (fo % 12) + 2) 0) := by unfold mr_0; rw [hA]
  by_cases hw : (wdX ch len a).2 = 0
  · have e : mr_M ch len fo a o nb = (0, A0, o, nb) := by unfold mr_M; rw [if_pos hw, hA]
    rw [e, if_pos hw, tn_br]
    dsimp only
    rw [tk_br, tn_br]
    dsimp only
    refine ⟨fun _ => ?_, fun q => absurd rfl q⟩
    split
    · rw [tk_br, tn_br]
      exact ⟨rfl, rfl⟩
    · exact ⟨rfl, rfl⟩
  · rw [if_neg hw, w2 hw, tn0]
    dsimp only
    have r0 := nu_R (a := A0) hc (by omega)
    have m1 : mr_1 ch len fo a o nb = (nuE ch len A0, nuW ch len 0 27719 A0 o, nuB ch len fo 0 0 A0 (zup nb (3 * (fo % 12) + 2) 0)) := by unfold mr_1; rw [m0]; rfl
    by_cases h1 : A0 < nuE ch len A0
    · rw [if_neg (show ¬ nuE ch len A0 = A0 by omega), nuW_eq h1]
      generalize hE0 : nuE ch len A0 = E0 at *
      generalize hV0 : nuV ch len A0 = V0 at *
      obtain ⟨W0, hW0⟩ : ∃ W, W = nuW ch len 0 27719 A0 o := ⟨_, rfl⟩
      rw [← hW0] at m1 ⊢
      have hN0 : W0 < 0 → o < 0 ∧ 0 ≤ V0 ∧ V0 ≤ 27719 := fun z => by
        rw [← hV0]
        exact nuW_ok (by omega) (by rw [hE0]; exact h1) (by rw [← hW0]; exact z)
      by_cases h2 : sgF ch len E0 = 43
      · rw [tk_a rfl h2, tn0]
        dsimp only
        have s0 := (sg_R hc E0).2.2 (by omega)
        have r1 := nu_R (a := E0 + 1) hc (by omega)
        have m2 : mr_2 ch len fo a o nb = (nuE ch len (E0 + 1), nuW ch len 1 27720 (E0 + 1) W0, nuB ch len fo 1 0 (E0 + 1) (nuB ch len fo 0 0 A0 (zup nb (3 * (fo % 12) + 2) 0))) := by unfold mr_2; rw [m1]; rfl
        by_cases h3 : E0 + 1 < nuE ch len (E0 + 1)
        · rw [if_neg (show ¬ nuE ch len (E0 + 1) = E0 + 1 by omega), nuW_eq h3]
          generalize hE1 : nuE ch len (E0 + 1) = E1 at *
          generalize hV1 : nuV ch len (E0 + 1) = V1 at *
          obtain ⟨W1, hW1⟩ : ∃ W, W = nuW ch len 1 27720 (E0 + 1) W0 := ⟨_, rfl⟩
          rw [← hW1] at m2 ⊢
          have hN1 : W1 < 0 → W0 < 0 ∧ 1 ≤ V1 ∧ V1 ≤ 27720 := fun z => by
            rw [← hV1]
            exact nuW_ok (by omega) (by rw [hE1]; exact h3) (by rw [← hW1]; exact z)
          obtain ⟨B1, hB1⟩ : ∃ B, B = nuB ch len fo 1 0 (E0 + 1) (nuB ch len fo 0 0 A0 (zup nb (3 * (fo % 12) + 2) 0)) := ⟨_, rfl⟩
          rw [← hB1] at m2
          have b0 : B1 (3 * (fo % 12)) = V0 := by
            rw [hB1]
            unfold nuB
            rw [zup_n (by omega), Int.add_zero, zup_s, if_pos rfl, hV0]
          have b1 : B1 (3 * (fo % 12) + 1) = V1 := by
            rw [hB1]
            unfold nuB
            rw [zup_s, if_pos rfl, hV1]
          have b2 : B1 (3 * (fo % 12) + 2) = 0 := by
            rw [hB1]
            unfold nuB
            rw [zup_n (by omega), zup_n (by omega), zup_s]
          have b3 : ∀ j, ¬ (3 * (fo % 12) ≤ j ∧ j ≤ 3 * (fo % 12) + 2) → B1 j = nb j := fun j hj => by
            rw [hB1]
            unfold nuB
            rw [zup_n (by omega), zup_n (by omega), zup_n (by omega)]
          by_cases h4 : wkK ch len a = 1 ∨ wkK ch len a = 4
          · have e : mr_M ch len fo a o nb = (1, E1, W1, B1) := by
              unfold mr_M
              rw [m0, m1, m2]
              exact (if_neg hw).trans ((if_neg (not_not_intro h1)).trans ((if_neg (not_not_intro h2)).trans ((if_neg (not_not_intro h3)).trans (if_pos h4))))
            rw [e, if_neg (show ¬ hasBP (wkK ch len a) by unfold hasBP; omega)]
            dsimp only
            refine ⟨fun q => absurd q (by decide), fun _ => ⟨rfl, by rw [b0, b1, b2], fun z => ⟨(hN0 (hN1 z).1).1, ?_⟩, b3⟩⟩
            have z0 := hN0 (hN1 z).1
            have z1 := hN1 z
            rw [b0, b1, b2]
            unfold allowP leastF mostF
            rw [if_neg (by omega), if_neg (by omega), if_neg (by omega)]
            omega
          · rw [if_pos (show hasBP (wkK ch len a) by unfold hasBP; omega)]
            dsimp only
            by_cases h5 : sgF ch len E1 = 44
            · have s1 := (sg_R hc E1).2.2 (by omega)
              have s2 := (sg_R hc (E1 + 1)).2.2
              obtain ⟨g, hg⟩ : ∃ g, g = mr_G ch len fo a o nb := ⟨_, rfl⟩
              have hg2 : ngF ch len (bZ (mayP (wkK ch len a))) (E1 + 1) = g := by
                rw [hg]
                unfold mr_G ngF
                rw [m2]
                by_cases hm : mayP (wkK ch len a)
                · rw [bZ_t hm]
                  by_cases h45 : sgF ch len (E1 + 1) = 45
                  · rw [if_pos ⟨by decide, h45⟩, if_pos ⟨by unfold mayP at hm; omega, h45⟩]
                  · rw [if_neg (fun z => h45 z.2), if_neg (fun z => h45 z.2)]
                · rw [bZ_f hm, if_neg (fun z => z.1 rfl), if_neg (fun z => by unfold mayP at hm; have := z.1; omega)]
              have hg1 : (g = 0) ∨ (g = 1 ∧ ¬ wkK ch len a = 0 ∧ sgF ch len (E1 + 1) = 45) := by
                rw [hg]
                unfold mr_G
                rw [m2]
                dsimp only
                split
                · rename_i z
                  exact Or.inr ⟨rfl, z.1, z.2⟩
                · exact Or.inl rfl
              rw [tk_a rfl h5, tn_a rfl, hg2]
              rw [show (dgJ ch len 5 (E1 + 1 + g) 0).1 = nuE ch len (E1 + 1 + g) from rfl, show (dgJ ch len 5 (E1 + 1 + g) 0).2 = nuV ch len (E1 + 1 + g) from rfl]
              have r2 := nu_R (a := E1 + 1 + g) hc (by omega)
              have m3 : mr_3 ch len fo a o nb = (nuE ch len (E1 + 1 + g), nuW ch len 0 (if wkK ch len a = 0 then 1000 else 9999) (E1 + 1 + g) W1, nuB ch len fo 2 g (E1 + 1 + g) B1) := by unfold mr_3; rw [m2, ← hg]; rfl
              have e : mr_M ch len fo a o nb = (bZ (E1 + 1 + g < nuE ch len (E1 + 1 + g)), nuE ch len (E1 + 1 + g), nuW ch len 0 (if wkK ch len a = 0 then 1000 else 9999) (E1 + 1 + g) W1, nuB ch len fo 2 g (E1 + 1 + g) B1) := by
                unfold mr_M
                rw [m0, m1, m2, m3, ← hg]
                exact (if_neg hw).trans ((if_neg (not_not_intro h1)).trans ((if_neg (not_not_intro h2)).trans ((if_neg (not_not_intro h3)).trans ((if_neg h4).trans (if_neg (not_not_intro h5))))))
              rw [e]
              generalize hE2 : nuE ch len (E1 + 1 + g) = E2 at *
              generalize hV2 : nuV ch len (E1 + 1 + g) = V2 at *
              dsimp only
              by_cases h6 : E1 + 1 + g < E2
              · rw [bZ_t h6, if_neg (show ¬ E2 = E1 + 1 + g by omega)]
                obtain ⟨hi, hhi⟩ : ∃ hi, hi = if wkK ch len a = 0 then (1000 : Int) else 9999 := ⟨_, rfl⟩
                rw [← hhi]
                have hL : leastF (wkK ch len a) = if wkK ch len a = 0 then 0 else -9999 := by
                  unfold leastF
                  by_cases hz : wkK ch len a = 0
                  · rw [if_pos hz, if_neg (by omega)]
                  · rw [if_neg hz, if_pos (by omega)]
                have hM : mostF (wkK ch len a) = hi := by
                  rw [hhi]
                  unfold mostF
                  by_cases hz : wkK ch len a = 0
                  · rw [if_pos hz, if_neg (by omega), if_pos hz]
                  · rw [if_pos (show wkK ch len a = 2 ∨ wkK ch len a = 3 by omega), if_neg hz]
                have hx : (if W1 < 0 ∧ ((if g = 0 then V2 else -V2) < leastF (wkK ch len a) ∨ mostF (wkK ch len a) < (if g = 0 then V2 else -V2)) then E1 + 1 + g else W1) = nuW ch len 0 hi (E1 + 1 + g) W1 := by
                  rw [← nuW_eq (by rw [hE2]; exact h6), hV2, hL, hM]
                  have heq : ((if g = 0 then V2 else -V2) < (if wkK ch len a = 0 then 0 else -9999) ∨ hi < (if g = 0 then V2 else -V2)) ↔ (V2 < 0 ∨ hi < V2) := by
                    rw [hhi]
                    rcases hg1 with z | ⟨z, z2, -⟩
                    · rw [if_pos z]
                      by_cases hz : wkK ch len a = 0
                      · rw [if_pos hz, if_pos hz]
                      · rw [if_neg hz, if_neg hz]; omega
                    · rw [if_neg (show ¬ g = 0 by omega), if_neg z2, if_neg z2]
                      omega
                  by_cases hz : W1 < 0 ∧ (V2 < 0 ∨ hi < V2)
                  · rw [if_pos hz, if_pos ⟨hz.1, heq.mpr hz.2⟩]
                  · rw [if_neg hz, if_neg (fun z => hz ⟨z.1, heq.mp z.2⟩)]
                rw [hx]
                have c0 : nuB ch len fo 2 g (E1 + 1 + g) B1 (3 * (fo % 12)) = V0 := by unfold nuB; rw [zup_n (by omega)]; exact b0
                have c1 : nuB ch len fo 2 g (E1 + 1 + g) B1 (3 * (fo % 12) + 1) = V1 := by unfold nuB; rw [zup_n (by omega)]; exact b1
                have c2 : nuB ch len fo 2 g (E1 + 1 + g) B1 (3 * (fo % 12) + 2) = if g = 0 then V2 else -V2 := by unfold nuB; rw [zup_s, hV2]
                refine ⟨fun q => absurd q (by decide), fun _ => ⟨rfl, by rw [c0, c1, c2], fun z => ?_, fun j hj => ?_⟩⟩
                · have z2 := nuW_ok (by omega) (by rw [hE2]; exact h6) z
                  rw [hV2] at z2
                  have z1 := hN1 z2.1
                  have z0 := hN0 z1.1
                  refine ⟨z0.1, ?_⟩
                  rw [c0, c1, c2]
                  unfold allowP
                  rw [hL, hM]
                  refine ⟨hk, ⟨z0.2.1, by omega⟩, z1.2, ?_⟩
                  rw [hhi] at z2 ⊢
                  rcases hg1 with y | ⟨y, y2, -⟩
                  · rw [if_pos y]
                    by_cases hz : wkK ch len a = 0
                    · rw [if_pos hz] at z2 ⊢
                      rw [if_pos hz]
                      omega
                    · rw [if_neg hz] at z2 ⊢
                      rw [if_neg hz]
                      omega
                  · rw [if_neg (show ¬ g = 0 by omega)]
                    rw [if_neg y2] at z2 ⊢
                    rw [if_neg y2]
                    omega
                · unfold nuB
                  rw [zup_n (by omega)]
                  exact b3 j hj
              · rw [bZ_f h6, if_pos (show E2 = E1 + 1 + g by omega)]
                exact ⟨fun _ => ⟨rfl, rfl⟩, fun q => absurd rfl q⟩
            · have e : mr_M ch len fo a o nb = (0, E1, W1, B1) := by
                unfold mr_M
                rw [m0, m1, m2]
                exact (if_neg hw).trans ((if_neg (not_not_intro h1)).trans ((if_neg (not_not_intro h2)).trans ((if_neg (not_not_intro h3)).trans ((if_neg h4).trans (if_pos h5)))))
              rw [e, tk_b rfl h5, tn_br]
              exact ⟨fun _ => ⟨rfl, rfl⟩, fun q => absurd rfl q⟩
        · have e : mr_M ch len fo a o nb = (0, mr_2 ch len fo a o nb) := by
            unfold mr_M
            rw [m0, m1, m2]
            exact (if_neg hw).trans ((if_neg (not_not_intro h1)).trans ((if_neg (not_not_intro h2)).trans (if_pos h3)))
          rw [e, m2, if_pos (show nuE ch len (E0 + 1) = E0 + 1 by omega)]
          dsimp only
          refine ⟨fun _ => ?_, fun q => absurd rfl q⟩
          split
          · rw [tk_br, tn_br]
            exact ⟨rfl, rfl⟩
          · exact ⟨rfl, rfl⟩
      · have e : mr_M ch len fo a o nb = (0, mr_1 ch len fo a o nb) := by
          unfold mr_M
          rw [m0, m1]
          exact (if_neg hw).trans ((if_neg (not_not_intro h1)).trans (if_pos h2))
        rw [e, m1, tk_b rfl h2, tn_br]
        dsimp only
        refine ⟨fun _ => ?_, fun q => absurd rfl q⟩
        split
        · rw [tk_br, tn_br]
          exact ⟨rfl, rfl⟩
        · exact ⟨rfl, rfl⟩
    · have e : mr_M ch len fo a o nb = (0, mr_1 ch len fo a o nb) := by
        unfold mr_M
        rw [m0, m1]
        exact (if_neg hw).trans (if_pos h1)
      rw [e, m1, if_pos (show nuE ch len A0 = A0 by omega), tk_br, tn_br]
      dsimp only
      refine ⟨fun _ => ?_, fun q => absurd rfl q⟩
      split
      · rw [tk_br, tn_br]
        exact ⟨rfl, rfl⟩
      · exact ⟨rfl, rfl⟩
theorem ro_br {ch : Int → Int} {len a o : Int} : (roN ch len (a, 1, o)).2 = (a, 1, o) := by
  unfold roN
  dsimp only
  rw [tw_c (by decide)]
  dsimp only
  rw [tk_br, tn_br]
  dsimp only
  rw [tk_br, tn_br]
  dsimp only
  split
  · rw [tk_br, tn_br]
  · rfl
/-- found, so far, on both sides -/
def TR (x : TS × FS) (t : MT) : Prop := x.1 = (t.1, 0, t.2.2.1) ∧ (0 ≤ t.2.1 ∧ 5 * t.2.1 ≤ t.1) ∧ (t.2.2.1 < 0 → x.2.1 = t.2.1 ∧ ∀ i, 0 ≤ i → i < t.2.1 → x.2.2 (i * 4 + 0) = t.2.2.2.1 i ∧ x.2.2 (i * 4 + 1) = t.2.2.2.2 (3 * i) ∧ x.2.2 (i * 4 + 2) = t.2.2.2.2 (3 * i + 1) ∧ x.2.2 (i * 4 + 3) = t.2.2.2.2 (3 * i + 2) ∧ PartOK x.2.2 i)
def RES (x : TS × FS) (y : Int × MT) : Prop := errV x.1 = y.1 ∧ -1 ≤ y.1 ∧ y.1 ≤ 60 ∧ (0 ≤ y.2.2.1 ∧ y.2.2.1 ≤ 12) ∧ (y.1 < 0 → x.2.1 = y.2.2.1 ∧ ∀ i, 0 ≤ i → i < y.2.2.1 → x.2.2 (i * 4 + 0) = y.2.2.2.2.1 i ∧ x.2.2 (i * 4 + 1) = y.2.2.2.2.2 (3 * i) ∧ x.2.2 (i * 4 + 2) = y.2.2.2.2.2 (3 * i + 1) ∧ x.2.2 (i * 4 + 3) = y.2.2.2.2.2 (3 * i + 2) ∧ PartOK x.2.2 i)
theorem PartOK_congr {f g : Int → Int} {i : Int} (h0 : f (i * 4 + 0) = g (i * 4 + 0)) (h1 : f (i * 4 + 1) = g (i * 4 + 1)) (h2 : f (i * 4 + 2) = g (i * 4 + 2)) (h3 : f (i * 4 + 3) = g (i * 4 + 3)) (h : PartOK f i) : PartOK g i := by
  unfold PartOK at h ⊢
  rw [← h0, ← h1, ← h2, ← h3]
  exact h
theorem res_eq {ch : Int → Int} {len : Int} (hc : ChOK ch len) : ∀ (m n : Nat) (x : TS × FS) (t : MT), TR x t → (0 ≤ t.1 ∧ t.1 ≤ len) → (-1 ≤ t.2.2.1 ∧ t.2.2.1 ≤ len) → 60 ≤ (n : Int) + t.1 → 61 ≤ (m : Int) + t.1 → RES (errI ch len n (reX ch len x)) (wrI ch len m t) := by
  intro m
  induction m with
  | zero =>
    intro n x t hT ht hw hn hm
    have hl := hc.1
    omega
  | succ m ih =>
    intro n x t hT ht hw hn hm
    have hl := hc.1
    have hRp := mr_R (fo := t.2.1) (nb := t.2.2.2.2) hc ht hw
    have ro := ro_eq (fo := t.2.1) (nb := t.2.2.2.2) (o := t.2.2.1) hc ht
    unfold RO at ro
    rw [show mr_M ch len t.2.1 t.1 t.2.2.1 t.2.2.2.2 = mtP ch len t from rfl] at ro hRp
    obtain ⟨x1, F⟩ := x
    obtain ⟨t1, t2, t3⟩ := hT
    dsimp only at t1 t3
    subst t1
    have hX : reX ch len ((t.1, 0, t.2.2.1), F) = ((roN ch len (t.1, 0, t.2.2.1)).2, roF (roN ch len (t.1, 0, t.2.2.1)) F) := rfl
    by_cases hr : (mtP ch len t).1 = 0
    · obtain ⟨hb, hat⟩ := ro.1 hr
      rw [hX, errI_x n (fun q => by have := q.1; dsimp only at this; rw [hb] at this; exact absurd this (by decide)), wr_a m hr]
      refine ⟨?_, by dsimp only; omega, by dsimp only; omega, by dsimp only; omega, fun q => ?_⟩
      · dsimp only
        unfold errV
        rw [if_neg (by rw [hb]; decide)]
        exact hat
      · dsimp only at q
        omega
    · obtain ⟨hR2, hR1, hok, hnb⟩ := ro.2 hr
      have hp5 := hRp.2.2.2 hr
      have hfo : t.2.1 ≤ 11 := by omega
      have hmod : t.2.1 % 12 = t.2.1 := by omega
      rw [hmod] at hR1 hok hnb
      have hFS : (mtP ch len t).2.2.1 < 0 → (roF (roN ch len (t.1, 0, t.2.2.1)) F).1 = t.2.1 + 1 ∧ ∀ i, 0 ≤ i → i < t.2.1 + 1 → (roF (roN ch len (t.1, 0, t.2.2.1)) F).2 (i * 4 + 0) = mtK ch len t i ∧ (roF (roN ch len (t.1, 0, t.2.2.1)) F).2 (i * 4 + 1) = (mtP ch len t).2.2.2 (3 * i) ∧ (roF (roN ch len (t.1, 0, t.2.2.1)) F).2 (i * 4 + 2) = (mtP ch len t).2.2.2 (3 * i + 1) ∧ (roF (roN ch len (t.1, 0, t.2.2.1)) F).2 (i * 4 + 3) = (mtP ch len t).2.2.2 (3 * i + 2) ∧ PartOK (roF (roN ch len (t.1, 0, t.2.2.1)) F).2 i := by
        intro ho
        obtain ⟨ho1, hall⟩ := hok ho
        obtain ⟨hF1, hF2⟩ := t3 ho1
        have e1 : roF (roN ch len (t.1, 0, t.2.2.1)) F = (t.2.1 + 1, appF F.2 t.2.1 (wkK ch len t.1) ((mtP ch len t).2.2.2 (3 * t.2.1)) ((mtP ch len t).2.2.2 (3 * t.2.1 + 1)) ((mtP ch len t).2.2.2 (3 * t.2.1 + 2))) := by
          unfold roF
          rw [if_pos (by rw [hR2]; exact ⟨rfl, ho⟩), hR1]
          unfold apC apF
          rw [hF1, if_pos (by omega), if_pos (by omega)]
        rw [e1]
        refine ⟨rfl, fun i i0 i1 => ?_⟩
        dsimp only
        unfold mtK
        rw [hmod]
        by_cases hi : i = t.2.1
        · rw [hi]
          have a0 : ∀ k p q b : Int, appF F.2 t.2.1 k p q b (t.2.1 * 4 + 0) = k := fun k p q b => by unfold appF; rw [zup_n (by omega), zup_n (by omega), zup_n (by omega), zup_s]
          have a1 : ∀ k p q b : Int, appF F.2 t.2.1 k p q b (t.2.1 * 4 + 1) = p := fun k p q b => by unfold appF; rw [zup_n (by omega), zup_n (by omega), zup_s]
          have a2 : ∀ k p q b : Int, appF F.2 t.2.1 k p q b (t.2.1 * 4 + 2) = q := fun k p q b => by unfold appF; rw [zup_n (by omega), zup_s]
          have a3 : ∀ k p q b : Int, appF F.2 t.2.1 k p q b (t.2.1 * 4 + 3) = b := fun k p q b => by unfold appF; rw [zup_s]
          unfold PartOK
          rw [a0, a1, a2, a3, zup_s]
          exact ⟨rfl, rfl, rfl, rfl, hall⟩
        · have g : ∀ c : Int, 0 ≤ c → c < 4 → ∀ k p q b : Int, appF F.2 t.2.1 k p q b (i * 4 + c) = F.2 (i * 4 + c) := fun c c0 c1 k p q b => by unfold appF; rw [zup_n (by omega), zup_n (by omega), zup_n (by omega), zup_n (by omega)]
          have q := hF2 i i0 (by omega)
          unfold PartOK
          rw [g 0 (by decide) (by decide), g 1 (by decide) (by decide), g 2 (by decide) (by decide), g 3 (by decide) (by decide), zup_n hi, hnb _ (by omega), hnb _ (by omega), hnb _ (by omega)]
          exact q
      by_cases hs : sgF ch len (mtP ch len t).2.1 = 59
      · have hlt := (sg_R hc (mtP ch len t).2.1).2.2 (by omega)
        obtain ⟨n', rfl⟩ : ∃ n', n = n' + 1 := ⟨n - 1, by omega⟩
        rw [hX, hR2, errI_e n' ⟨rfl, hlt.2⟩, wr_b m hr hs]
        dsimp only
        rw [tk_a rfl hs]
        exact ih n' _ _ ⟨rfl, ⟨by dsimp only; omega, by dsimp only; omega⟩, hFS⟩ ⟨by dsimp only; omega, by dsimp only; omega⟩ hRp.2.2.1 (by dsimp only; omega) (by dsimp only; omega)
      · rw [wr_c m hr hs]
        by_cases hlt : (mtP ch len t).2.1 < len
        · obtain ⟨n', rfl⟩ : ∃ n', n = n' + 1 := ⟨n - 1, by omega⟩
          rw [hX, hR2, errI_e n' ⟨rfl, hlt⟩]
          dsimp only
          rw [tk_b rfl hs, if_pos hlt]
          have e2 : reX ch len (((mtP ch len t).2.1, 1, (mtP ch len t).2.2.1), roF (roN ch len (t.1, 0, t.2.2.1)) F) = (((mtP ch len t).2.1, 1, (mtP ch len t).2.2.1), roF (roN ch len ((mtP ch len t).2.1, 1, (mtP ch len t).2.2.1)) (roF (roN ch len (t.1, 0, t.2.2.1)) F)) := by
            unfold reX
            dsimp only
            rw [ro_br]
          rw [e2, errI_x n' (fun q => absurd (show (1 : Int) = 0 from q.1) (by decide))]
          refine ⟨?_, by dsimp only; omega, by dsimp only; omega, by dsimp only; omega, fun q => ?_⟩
          · dsimp only
            unfold errV
            rw [if_neg (show ¬ (1 : Int) = 0 by decide)]
          · dsimp only at q
            omega
        · rw [hX, hR2, errI_x n (fun q => hlt q.2), if_neg hlt]
          refine ⟨?_, by dsimp only; omega, by dsimp only; omega, by dsimp only; omega, hFS⟩
          dsimp only
          unfold errV
          rw [if_pos rfl]
theorem read_eq {ch g kd nb : Int → Int} {len : Int} (hc : ChOK ch len) : RES (errX ch len g) (wrI ch len 61 (0, 0, -1, kd, nb)) := by
  have hl := hc.1
  exact res_eq hc 61 60 ((0, 0, -1), (0, g)) (0, 0, -1, kd, nb) ⟨rfl, ⟨by dsimp only; omega, by dsimp only; omega⟩, fun _ => ⟨rfl, fun i i0 i1 => by dsimp only at i1; omega⟩⟩ ⟨by dsimp only; omega, by dsimp only; omega⟩ ⟨by dsimp only; omega, by dsimp only; omega⟩ (by dsimp only; omega) (by dsimp only; omega)
