/-! the stretch without a hit: both ways are one; the marks -/
theorem gap_A {g : Int → Int} {p : Int → Bool} (hp : ∀ x : Int, 0 ≤ x → x < 27720 → (g x = 0 ↔ p x = false)) : ∀ k : Nat, k ≤ 27720 → gpM g k = ((k : Int) - (scanG p k).2.2 - 1, max (scanG p k).1 ((k : Int) - (scanG p k).2.2 - 1))
  | 0, _ => rfl
  | k + 1, hk => by
    have e := gap_A hp k (by omega)
    have hR := scan_R p k
    have h1 := hp (k : Int) (by omega) (by omega)
    rw [gpM, e, show (k : Int) % 27720 = (k : Int) by omega, scanG]
    dsimp only
    cases hq : p (k : Int) with
    | true =>
      have h2 : ¬ g (k : Int) = 0 := fun q => by rw [h1.mp q] at hq; cases hq
      rw [if_neg h2, if_pos rfl]
      dsimp only
      rw [Prod.mk.injEq]
      omega
    | false =>
      rw [if_pos (h1.mpr hq), if_neg (by decide)]
      rw [Prod.mk.injEq]
      omega
theorem scan_first {p : Int → Bool} : ∀ (k : Nat), (∀ j : Nat, (j : Int) < (scanG p k).2.1 → p (j : Int) = false) ∧ ((scanG p k).2.1 < 0 → ∀ j : Nat, j < k → p (j : Int) = false) ∧ (0 ≤ (scanG p k).2.1 → p (scanG p k).2.1 = true)
  | 0 => ⟨fun j h => by simp only [scanG] at h; omega, fun _ j h => by omega, fun h => by simp only [scanG] at h; omega⟩
  | k + 1 => by
    obtain ⟨a, b, c⟩ := scan_first (p := p) k
    have hR := scan_R p k
    cases hq : p (k : Int) with
    | true =>
      rw [scanG, hq, if_pos rfl]
      dsimp only
      by_cases hn : (scanG p k).2.1 < 0
      · rw [if_pos hn]
        exact ⟨fun j hj => b hn j (by omega), fun q => by omega, fun _ => hq⟩
      · rw [if_neg hn]
        exact ⟨a, fun q => absurd q hn, c⟩
    | false =>
      rw [scanG, hq, if_neg (by decide)]
      refine ⟨a, fun q j hj => ?_, c⟩
      by_cases hj2 : j = k
      · subst hj2
        exact hq
      · exact b q j (by omega)
theorem scan_last {p : Int → Bool} : ∀ k : Nat, (0 ≤ (scanG p k).2.1 → (scanG p k).2.1 ≤ (scanG p k).2.2) ∧ ((scanG p k).2.1 < 0 → (scanG p k).2.2 = -1 ∧ (scanG p k).1 = 0)
  | 0 => ⟨fun h => absurd (show (0 : Int) ≤ -1 from h) (by decide), fun _ => ⟨rfl, rfl⟩⟩
  | k + 1 => by
    have e := scan_last (p := p) k
    have hR := scan_R p k
    rw [scanG]
    split
    · dsimp only
      split <;> omega
    · exact e
theorem gp_mono {g : Int → Int} {a : Nat} : ∀ d : Nat, (gpM g a).2 ≤ (gpM g (a + d)).2
  | 0 => Int.le_refl _
  | d + 1 => by
    have e := gp_mono (g := g) (a := a) d
    show _ ≤ (gpM g ((a + d) + 1)).2
    rw [gpM]
    dsimp only
    omega
theorem gp_le {g : Int → Int} : ∀ a : Nat, (gpM g a).1 ≤ (gpM g a).2
  | 0 => Int.le_refl _
  | a + 1 => by
    rw [gpM]
    dsimp only
    omega
theorem gap_eq {g : Int → Int} {p : Int → Bool} (hp : ∀ x : Int, 0 ≤ x → x < 27720 → (g x = 0 ↔ p x = false)) (hz : ∀ x : Int, 27720 ≤ x → x < 27776 → p x = false) {x0 : Int} (hx0 : 0 ≤ x0 ∧ x0 < 27720) (hx : p x0 = true) :
    (gpM g 55440).2 = max (scanG p 27776).1 ((scanG p 27776).2.1 + 27720 - (scanG p 27776).2.2 - 1) := by
  have e0 : scanG p 27776 = scanG p 27720 := scan_gap (p := p) (a := 27720) 56 (fun j h1 h2 => hz _ (by omega) (by omega))
  rw [e0]
  have eA := gap_A hp 27720 (Nat.le_refl _)
  obtain ⟨f1, f2, f3⟩ := scan_first (p := p) 27720
  have hL := scan_last (p := p) 27720
  have hR := scan_R p 27720
  have hF : 0 ≤ (scanG p 27720).2.1 := by
    apply Int.not_lt.mp
    intro q
    have := f2 q x0.toNat (by omega)
    rw [show (x0.toNat : Int) = x0 by omega, hx] at this
    cases this
  obtain ⟨F, hFe⟩ : ∃ F : Nat, (F : Int) = (scanG p 27720).2.1 := ⟨(scanG p 27720).2.1.toNat, by omega⟩
  generalize hS : scanG p 27720 = S at *
  have hB : ∀ j : Nat, j ≤ F → gpM g (27720 + j) = ((27720 : Int) + j - S.2.2 - 1, max S.1 ((27720 : Int) + j - S.2.2 - 1)) := by
    intro j
    induction j with
    | zero => intro _; rw [Nat.add_zero, eA]; rw [Prod.mk.injEq]; omega
    | succ j ih =>
      intro hj
      have e := ih (by omega)
      have h1 := (hp (j : Int) (by omega) (by omega)).mpr (f1 j (by omega))
      rw [show 27720 + (j + 1) = (27720 + j) + 1 by omega, gpM, e, show ((27720 + j : Nat) : Int) % 27720 = (j : Int) by omega, if_pos h1]
      dsimp only
      rw [Prod.mk.injEq]
      omega
  have hC : ∀ d : Nat, F + 1 + d ≤ 27720 → gpM g (27720 + (F + 1 + d)) = ((gpM g (F + 1 + d)).1, max S.1 ((F : Int) + 27720 - S.2.2 - 1)) := by
    intro d
    induction d with
    | zero =>
      intro _
      have e := hB F (Nat.le_refl _)
      have h1 : ¬ g (F : Int) = 0 := fun q => by
        have := (hp (F : Int) (by omega) (by omega)).mp q
        rw [hFe, f3 hF] at this
        cases this
      rw [Nat.add_zero, show 27720 + (F + 1) = (27720 + F) + 1 by omega, gpM, e, show ((27720 + F : Nat) : Int) % 27720 = (F : Int) by omega, if_neg h1, gpM, show (F : Int) % 27720 = (F : Int) by omega, if_neg h1]
      dsimp only
      rw [Prod.mk.injEq]
      omega
    | succ d ih =>
      intro hj
      have e := ih (by omega)
      have e2 : (gpM g (F + 1 + d + 1)).1 = if g (((F + 1 + d : Nat) : Int) % 27720) = 0 then (gpM g (F + 1 + d)).1 + 1 else 0 := by rw [gpM]
      have h3 := gp_le (g := g) (F + 1 + d + 1)
      have h4 := gp_mono (g := g) (a := F + 1 + d + 1) (27720 - (F + 1 + d + 1))
      rw [show F + 1 + d + 1 + (27720 - (F + 1 + d + 1)) = 27720 by omega, eA] at h4
      rw [show 27720 + (F + 1 + (d + 1)) = (27720 + (F + 1 + d)) + 1 by omega, show F + 1 + (d + 1) = F + 1 + d + 1 by omega, gpM, e, show ((27720 + (F + 1 + d) : Nat) : Int) % 27720 = ((F + 1 + d : Nat) : Int) % 27720 by omega, ← e2]
      dsimp only at h4 ⊢
      rw [Prod.mk.injEq]
      omega
  have e9 := hC (27720 - (F + 1)) (by omega)
  rw [show 27720 + (F + 1 + (27720 - (F + 1))) = 55440 by omega] at e9
  rw [e9]
  dsimp only
  omega
/-! a hit is noted -/
section NOTE
variable {N : Int → Int} {h r p t e s : Int}
theorem note_0 : noteF N h r p t e s (h * 5) = r := by
  unfold noteF
  rw [zup_n (by omega), zup_n (by omega), zup_n (by omega), zup_n (by omega), zup_s]
theorem note_1 : noteF N h r p t e s (h * 5 + 1) = p := by
  unfold noteF
  rw [zup_n (by omega), zup_n (by omega), zup_n (by omega), zup_s]
theorem note_3 : noteF N h r p t e s (h * 5 + 3) = e := by
  unfold noteF
  rw [zup_n (by omega), zup_s]
theorem note_o {j : Int} (hj : j < h * 5) : noteF N h r p t e s j = N j := by
  unfold noteF
  rw [zup_n (by omega), zup_n (by omega), zup_n (by omega), zup_n (by omega), zup_n (by omega)]
end NOTE
theorem cvS_congr {N N' g : Int → Int} : ∀ k : Nat, (∀ j : Int, 0 ≤ j → j < k → N (j * 5 + 1) = N' (j * 5 + 1)) → cvS N g k = cvS N' g k
  | 0, _ => rfl
  | k + 1, h => by
    have e := cvS_congr (g := g) k (fun j h0 h1 => h j h0 (by omega))
    rw [cvS, cvS, e, h (k : Int) (by omega) (by omega)]
theorem cv_has {N g : Int → Int} {x : Int} (hx : 0 ≤ x ∧ x < 27720) : ∀ k : Nat, ¬ (cvS N (clr0 g 27720) k).2 x = 0 ↔ ∃ i : Int, 0 ≤ i ∧ i < k ∧ N (i * 5 + 1) = x
  | 0 => by
    constructor
    · intro h
      exact absurd (show clr0 g 27720 x = 0 from if_pos hx) h
    · rintro ⟨i, h0, h1, -⟩
      omega
  | k + 1 => by
    have e := cv_has (N := N) (g := g) hx k
    rw [cvS]
    dsimp only
    by_cases hq : x = N ((k : Int) * 5 + 1)
    · rw [← hq, zup_s]
      exact ⟨fun _ => ⟨(k : Int), by omega, by omega, hq.symm⟩, fun _ => by decide⟩
    · rw [zup_n hq, e]
      constructor
      · rintro ⟨i, h0, h1, h2⟩
        exact ⟨i, h0, by omega, h2⟩
      · rintro ⟨i, h0, h1, h2⟩
        have : i ≠ (k : Int) := fun z => hq (by rw [← h2, z])
        exact ⟨i, h0, by omega, h2⟩
def MarkR (N : Int → Int) (h : Int) (wd : Int → Int) (cm : Int) : Prop := (∀ x : Int, 0 ≤ x → x < 27776 → (hasB wd x = true ↔ ∃ i : Int, 0 ≤ i ∧ i < h ∧ N (i * 5 + 1) = x)) ∧ (∀ g : Int → Int, cm = (cvS N (clr0 g 27720) h.toNat).1) ∧ ∀ i, R64 (wd i)
theorem mark_0 {N wd : Int → Int} (hw : ∀ i, R64 (wd i)) : MarkR N 0 (clr0 wd 434) 0 := by
  refine ⟨fun x h0 h1 => ⟨fun h => ?_, fun ⟨i, a, b, _⟩ => by omega⟩, fun g => rfl, fun i => ?_⟩
  · unfold hasB clr0 at h
    rw [if_pos (by omega)] at h
    have := (bit_zero (a := 0) (by decide)).mp rfl (x % 64).toNat (by omega)
    rw [this] at h
    cases h
  · unfold clr0
    split
    · decide
    · exact hw i
theorem mark_s {N wd : Int → Int} {h cm r p t e s : Int} (hM : MarkR N h wd cm) (hh : 0 ≤ h) (hp : 0 ≤ p ∧ p < 27720) : MarkR (noteF N h r p t e s) (h + 1) (mkF wd p) (mkC wd p cm) := by
  obtain ⟨m1, m2, m3⟩ := hM
  refine ⟨fun x h0 h1 => ?_, fun g => ?_, mkF_R m3⟩
  · rw [mkF_has, Bool.or_eq_true, m1 x h0 h1, decide_eq_true_iff]
    constructor
    · rintro (⟨i, a, b, c⟩ | q)
      · exact ⟨i, a, by omega, by rw [note_o (by omega)]; exact c⟩
      · exact ⟨h, hh, by omega, by rw [note_1]; exact q.symm⟩
    · rintro ⟨i, a, b, c⟩
      by_cases hi : i = h
      · subst hi
        rw [note_1] at c
        exact Or.inr c.symm
      · rw [note_o (by omega)] at c
        exact Or.inl ⟨i, a, by omega, c⟩
  · rw [cvS_s hh, cvS_congr (N' := N) h.toNat (fun j a b => note_o (by omega)), ← m2 g, note_1]
    dsimp only
    have e := cv_has (N := N) (g := g) hp h.toNat
    have e2 := m1 p hp.1 (by omega)
    have e3 : mkNew wd p ↔ (cvS N (clr0 g 27720) h.toNat).2 p = 0 := by
      rw [mkNew_iff]
      constructor
      · intro q
        apply Decidable.byContradiction
        intro z
        obtain ⟨i, a, b, c⟩ := e.mp z
        have := e2.mpr ⟨i, a, by omega, c⟩
        rw [q] at this
        cases this
      · intro q
        cases hb : hasB wd p with
        | false => rfl
        | true =>
          obtain ⟨i, a, b, c⟩ := e2.mp hb
          exact absurd q (e.mpr ⟨i, a, by omega, c⟩)
    unfold mkC
    by_cases hq : mkNew wd p
    · rw [if_pos hq, if_pos (e3.mp hq)]
    · rw [if_neg hq, if_neg (fun z => hq (e3.mpr z)), Int.add_zero]
theorem mark_gap {N wd g : Int → Int} {h cm : Int} (hM : MarkR N h wd cm) (hh : 0 ≤ h) (hN : ∀ i, 0 ≤ i → i < h → 0 ≤ N (i * 5 + 1) ∧ N (i * 5 + 1) < 27720) : gapC wd cm = if (cvS N (clr0 g 27720) h.toNat).1 = 0 then 27720 else (gpM (cvS N (clr0 g 27720) h.toNat).2 55440).2 := by
  obtain ⟨m1, m2, m3⟩ := hM
  rw [← m2 g]
  unfold gapC
  by_cases hc : cm = 0
  · rw [if_pos hc, if_pos hc]
  · rw [if_neg hc, if_neg hc]
    symm
    have h1 : 1 ≤ h := by
      apply Int.not_lt.mp
      intro q
      have e := m2 g
      rw [show h.toNat = 0 by omega] at e
      exact hc e
    have hx := hN 0 (by decide) (by omega)
    have hb : ∀ {a : Bool}, ¬ a = true ↔ a = false := by intro a; cases a <;> simp
    refine gap_eq (fun x a b => ?_) (fun x a b => ?_) hx ?_
    · have e := cv_has (N := N) (g := g) ⟨a, b⟩ h.toNat
      have e2 := m1 x a (by omega)
      rw [← hb, e2]
      constructor
      · rintro q ⟨i, i0, i1, i2⟩
        exact absurd q (e.mpr ⟨i, i0, by omega, i2⟩)
      · intro q
        apply Decidable.byContradiction
        intro z
        obtain ⟨i, i0, i1, i2⟩ := e.mp z
        exact q ⟨i, i0, by omega, i2⟩
    · rw [← hb, m1 x (by omega) b]
      rintro ⟨i, i0, i1, i2⟩
      have := hN i i0 i1
      omega
    · exact (m1 _ hx.1 (by omega)).mpr ⟨0, by decide, by omega, rfl⟩
