/-! the wall and the history: both pictures go together -/
def WR (n lo z : Int) (f vv : Int → Int) : Prop := vv 0 = n ∧ vv 1 = lo ∧ vv 2 = z ∧ (∀ j, 0 ≤ j → j < n * 4 → f j = vF vv j) ∧ WallOK n lo z f
section WR_
variable {n lo z : Int} {f vv : Int → Int}
theorem OK_congr {g : Int → Int} (h : WallOK n lo z f) (hg : ∀ j, 0 ≤ j → j < n * 4 → f j = g j) : WallOK n lo z g := ⟨h.1, h.2.1, h.2.2.1, fun j a b => PartOK_congr (hg _ (by omega) (by omega)) (hg _ (by omega) (by omega)) (hg _ (by omega) (by omega)) (hg _ (by omega) (by omega)) (h.2.2.2 j a b)⟩
theorem WR_f {g : Int → Int} (h : WR n lo z f vv) (hg : ∀ j, 0 ≤ j → j < n * 4 → f j = g j) : WR n lo z g vv := ⟨h.1, h.2.1, h.2.2.1, fun j a b => (hg j a b).symm.trans (h.2.2.2.1 j a b), OK_congr h.2.2.2.2 hg⟩
theorem WR_v {ww : Int → Int} (h : WR n lo z f vv) (hv : ∀ j, 0 ≤ j → j < 60 → vv j = ww j) : WR n lo z f ww := by
  have hn := h.2.2.2.2.1
  exact ⟨(hv 0 (by decide) (by decide)).symm.trans h.1, (hv 1 (by decide) (by decide)).symm.trans h.2.1, (hv 2 (by decide) (by decide)).symm.trans h.2.2.1, fun j a b => (h.2.2.2.1 j a b).trans (hv (4 + j) (by omega) (by omega)), h.2.2.2.2⟩
theorem WR_ok (h : WR n lo z f vv) : WallOK (vv 0) (vv 1) (vv 2) (vF vv) := by
  rw [h.1, h.2.1, h.2.2.1]
  exact OK_congr h.2.2.2.2 h.2.2.2.1
theorem WR_num (h : WR n lo z f vv) (k j : Int) : numF n f k j = numF (vv 0) (vF vv) k j := by
  unfold numF
  rw [h.1]
  by_cases hc : 0 ≤ k ∧ k < n ∧ 0 ≤ j ∧ j < 4
  · rw [if_pos hc, if_pos hc, h.2.2.2.1 _ (by omega) (by omega)]
  · rw [if_neg hc, if_neg hc]
theorem WR_add {k p m q : Int} (h : WR n lo z f vv) (hA : allowP k p m q) (hl : n < 12) : WR (n + 1) lo z (appF f n k p m q) (adF vv k p m q) := by
  obtain ⟨h0, h1, h2, h3, h4⟩ := h
  have hn := h4.1
  have a0 : appF f n k p m q (n * 4 + 0) = k := by unfold appF; rw [zup_n (by omega), zup_n (by omega), zup_n (by omega), zup_s]
  have a1 : appF f n k p m q (n * 4 + 1) = p := by unfold appF; rw [zup_n (by omega), zup_n (by omega), zup_s]
  have a2 : appF f n k p m q (n * 4 + 2) = m := by unfold appF; rw [zup_n (by omega), zup_s]
  have a3 : appF f n k p m q (n * 4 + 3) = q := by unfold appF; rw [zup_s]
  have ao : ∀ j, j < n * 4 → appF f n k p m q j = f j := fun j hj => by unfold appF; rw [zup_n (by omega), zup_n (by omega), zup_n (by omega), zup_n (by omega)]
  have vo : ∀ j, 0 < j → j < 4 + 4 * n → adF vv k p m q j = vv j := fun j j0 j1 => by unfold adF; rw [h0, zup_n (by omega), zup_n (by omega), zup_n (by omega), zup_n (by omega), zup_n (by omega)]
  refine ⟨?_, (vo 1 (by decide) (by omega)).trans h1, (vo 2 (by decide) (by omega)).trans h2, fun j j0 j1 => ?_, ⟨by omega, h4.2.1, h4.2.2.1, fun i i0 i1 => ?_⟩⟩
  · unfold adF
    rw [zup_s, h0]
  · unfold vF
    by_cases hj : j < n * 4
    · rw [ao j hj, vo _ (by omega) (by omega)]
      exact h3 j j0 hj
    · rcases (show j = n * 4 + 0 ∨ j = n * 4 + 1 ∨ j = n * 4 + 2 ∨ j = n * 4 + 3 by omega) with e | e | e | e
      · subst e
        rw [a0]
        unfold adF
        rw [h0, zup_n (by omega), zup_n (by omega), zup_n (by omega), zup_n (by omega), show 4 + (n * 4 + 0) = 4 + 4 * n by omega, zup_s]
      · subst e
        rw [a1]
        unfold adF
        rw [h0, zup_n (by omega), zup_n (by omega), zup_n (by omega), show 4 + (n * 4 + 1) = 4 + 4 * n + 1 by omega, zup_s]
      · subst e
        rw [a2]
        unfold adF
        rw [h0, zup_n (by omega), zup_n (by omega), show 4 + (n * 4 + 2) = 4 + 4 * n + 2 by omega, zup_s]
      · subst e
        rw [a3]
        unfold adF
        rw [h0, zup_n (by omega), show 4 + (n * 4 + 3) = 4 + 4 * n + 3 by omega, zup_s]
  · by_cases hi : i = n
    · subst hi
      unfold PartOK
      rw [a0, a1, a2, a3]
      exact hA
    · exact PartOK_congr (ao _ (by omega)).symm (ao _ (by omega)).symm (ao _ (by omega)).symm (ao _ (by omega)).symm (h4.2.2.2 i i0 (by omega))
theorem WR_remove {k : Int} (h : WR n lo z f vv) (hk : 0 ≤ k ∧ k < n) : WR (n - 1) lo z (cpyF f f (k * 4 + 4) (k * 4) (n * 4 - (k * 4 + 4))) (rmF vv k) := by
  obtain ⟨h0, h1, h2, h3, h4⟩ := h
  have hn := h4.1
  have r0 : ∀ j, j < 4 + 4 * k → rmF vv k j = zup vv 0 (vv 0 - 1) j := fun j hj => by unfold rmF shL; rw [if_neg (by omega)]
  have ra : ∀ j, 4 + 4 * k ≤ j → j < 4 + 4 * (n - 1) → rmF vv k j = vv (j + 4) := fun j j0 j1 => by unfold rmF shL; rw [h0, if_pos ⟨j0, j1⟩, zup_n (by omega)]
  have ca : ∀ j, k * 4 ≤ j → j < (n - 1) * 4 → cpyF f f (k * 4 + 4) (k * 4) (n * 4 - (k * 4 + 4)) j = f (j + 4) := fun j j0 j1 => by unfold cpyF; rw [if_pos (by omega)]; congr 1; omega
  have cb : ∀ j, j < k * 4 → cpyF f f (k * 4 + 4) (k * 4) (n * 4 - (k * 4 + 4)) j = f j := fun j j0 => by unfold cpyF; rw [if_neg (by omega)]
  refine ⟨?_, ?_, ?_, fun j j0 j1 => ?_, ⟨by omega, h4.2.1, h4.2.2.1, fun i i0 i1 => ?_⟩⟩
  · rw [r0 0 (by omega), zup_s, h0]
  · rw [r0 1 (by omega), zup_n (by decide), h1]
  · rw [r0 2 (by omega), zup_n (by decide), h2]
  · unfold vF
    by_cases hj : j < k * 4
    · rw [cb j hj, r0 _ (by omega), zup_n (by omega)]
      exact h3 j j0 (by omega)
    · rw [ca j (by omega) j1, ra _ (by omega) (by omega), h3 (j + 4) (by omega) (by omega)]
      unfold vF
      congr 1
      omega
  · by_cases hi : i < k
    · exact PartOK_congr (cb _ (by omega)).symm (cb _ (by omega)).symm (cb _ (by omega)).symm (cb _ (by omega)).symm (h4.2.2.2 i i0 (by omega))
    · have q := h4.2.2.2 (i + 1) (by omega) (by omega)
      unfold PartOK at q ⊢
      rw [ca _ (by omega) (by omega), ca _ (by omega) (by omega), ca _ (by omega) (by omega), ca _ (by omega) (by omega)]
      rw [show i * 4 + 0 + 4 = (i + 1) * 4 + 0 by omega, show i * 4 + 1 + 4 = (i + 1) * 4 + 1 by omega, show i * 4 + 2 + 4 = (i + 1) * 4 + 2 by omega, show i * 4 + 3 + 4 = (i + 1) * 4 + 3 by omega]
      exact q
theorem WR_loss {k : Int} (h : WR n lo z f vv) (hk : 0 ≤ k ∧ k ≤ 999) : WR n k z f (zup vv 1 k) := ⟨(zup_n (by decide)).trans h.1, zup_s, (zup_n (by decide)).trans h.2.2.1, fun j a b => (h.2.2.2.1 j a b).trans (zup_n (show 4 + j ≠ 1 by omega)).symm, ⟨h.2.2.2.2.1, hk, h.2.2.2.2.2.2⟩⟩
theorem WR_thr {k : Int} (h : WR n lo z f vv) (hk : 1 ≤ k ∧ k ≤ 1000000) : WR n lo k f (zup vv 2 k) := ⟨(zup_n (by decide)).trans h.1, (zup_n (by decide)).trans h.2.1, zup_s, fun j a b => (h.2.2.2.1 j a b).trans (zup_n (show 4 + j ≠ 2 by omega)).symm, ⟨h.2.2.2.2.1, h.2.2.2.2.2.1, hk, h.2.2.2.2.2.2.2⟩⟩
theorem WR_read {F kd nb : Int → Int} (h : WR n lo z f vv) : ∀ (k : Nat), n + k ≤ 12 → (∀ i, 0 ≤ i → i < (k : Int) → F (i * 4 + 0) = kd i ∧ F (i * 4 + 1) = nb (3 * i) ∧ F (i * 4 + 2) = nb (3 * i + 1) ∧ F (i * 4 + 3) = nb (3 * i + 2) ∧ PartOK F i) → WR (n + k) lo z (cpyF F f 0 (n * 4) ((k : Int) * 4)) (adI kd nb vv k)
  | 0, _, _ => by
    show WR (n + 0) lo z (cpyF F f 0 (n * 4) (0 * 4)) vv
    rw [Int.add_zero, cpy_0]
    exact h
  | k + 1, hk, hF => by
    have e := WR_read (F := F) h k (by omega) (fun i i0 i1 => hF i i0 (by omega))
    obtain ⟨q0, q1, q2, q3, q4⟩ := hF (k : Int) (by omega) (by omega)
    have e2 := WR_add (k := F ((k : Int) * 4 + 0)) (p := F ((k : Int) * 4 + 1)) (m := F ((k : Int) * 4 + 2)) (q := F ((k : Int) * 4 + 3)) e q4 (by omega)
    rw [app_cpy (by omega)] at e2
    rw [adI, ← q0, ← q1, ← q2, ← q3, show n + ((k + 1 : Nat) : Int) = n + (k : Int) + 1 by omega, show ((k + 1 : Nat) : Int) * 4 = ((k : Int) + 1) * 4 by omega]
    exact e2
end WR_
/-- the history -/
def HR (c : Int) (N L T : Nat → Int) (F : Nat → Int → Int) (pp : Int → Int) : Prop := (0 ≤ c ∧ c ≤ 5) ∧ ∀ i : Nat, (i : Int) < c → WR (N i) (L i) (T i) (F i) (fun j => pp (60 * (i : Int) + j))
theorem HR_keep {c n lo z : Int} {N L T : Nat → Int} {F : Nat → Int → Int} {f vv pp : Int → Int} (hH : HR c N L T F pp) (hW : WR n lo z f vv) : HR (kc c) (kp N c n) (kp L c lo) (kp T c z) (kp F c (cpyF f (oldF F c) 0 0 (n * 4))) (aP vv pp c) := by
  obtain ⟨⟨c0, c1⟩, h⟩ := hH
  have hW2 : ∀ g : Int → Int, WR n lo z (cpyF f g 0 0 (n * 4)) vv := fun g => WR_f hW (fun j a b => by
    unfold cpyF
    rw [if_pos (by omega)]
    congr 1
    omega)
  by_cases h5 : c = 5
  · subst h5
    refine ⟨by unfold kc; rw [if_pos rfl]; omega, fun i hi => ?_⟩
    unfold kc at hi
    rw [if_pos rfl] at hi
    unfold kp
    rw [if_pos rfl, if_pos rfl, if_pos rfl, if_pos rfl]
    unfold up1 aP aM aP0
    rw [if_pos rfl, if_pos rfl]
    by_cases h4 : (i : Int) = 4
    · rw [if_pos h4, if_pos h4, if_pos h4, if_pos h4]
      refine WR_v (hW2 _) (fun j a b => ?_)
      unfold cpyF
      rw [if_pos (by omega)]
      congr 1
      omega
    · rw [if_neg h4, if_neg h4, if_neg h4, if_neg h4]
      have e := h (i + 1) (by omega)
      unfold rot5
      rw [show (i + 1) % 5 = i + 1 by omega]
      refine WR_v e (fun j a b => ?_)
      unfold cpyF shF
      rw [if_neg (by omega), if_pos (by omega)]
      congr 1
      omega
  · refine ⟨by unfold kc; rw [if_neg h5]; omega, fun i hi => ?_⟩
    unfold kc at hi
    rw [if_neg h5] at hi
    unfold kp
    rw [if_neg h5, if_neg h5, if_neg h5, if_neg h5]
    unfold up1 aP aM aP0
    rw [if_neg h5, if_neg h5]
    by_cases h4 : (i : Int) = c
    · rw [if_pos h4, if_pos h4, if_pos h4, if_pos h4]
      refine WR_v (hW2 _) (fun j a b => ?_)
      unfold cpyF
      rw [if_pos (by omega)]
      congr 1
      omega
    · rw [if_neg h4, if_neg h4, if_neg h4, if_neg h4]
      refine WR_v (h i (by omega)) (fun j a b => ?_)
      unfold cpyF
      rw [if_neg (by omega)]
theorem kc_eq {c : Int} (h : 0 ≤ c ∧ c ≤ 5) : aM c + 1 = kc c := by unfold aM kc; split <;> omega
theorem HR_pop {c : Int} {N L T : Nat → Int} {F : Nat → Int → Int} {pp : Int → Int} (hH : HR c N L T F pp) (hc : 1 ≤ c) : HR (c - 1) N L T F pp := ⟨by have := hH.1; omega, fun i hi => hH.2 i (by omega)⟩
theorem HR_top {c : Int} {N L T : Nat → Int} {F : Nat → Int → Int} {f vv pp : Int → Int} (hH : HR c N L T F pp) (hc : 1 ≤ c) : WR (N (c - 1).toNat) (L (c - 1).toNat) (T (c - 1).toNat) (cpyF (F (c - 1).toNat) f 0 0 (N (c - 1).toNat * 4)) (undF vv pp c) := by
  have e := hH.2 (c - 1).toNat (by omega)
  refine WR_f (WR_v e (fun j a b => ?_)) (fun j a b => ?_)
  · unfold undF cpyF
    rw [if_pos (by omega)]
    congr 1
    omega
  · unfold cpyF
    rw [if_pos (by omega)]
    congr 1
    omega
