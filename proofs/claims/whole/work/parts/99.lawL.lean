/-! ===== the script's loop ===== -/
section GL
variable {d L : Nat} {M : Mem} {Q : Option PV → Mem → Prop}
theorem lawL (hd : 60 ≤ d) (hL : L ≤ 3072) (hQ : ∀ M', mX M' ≤ 600002 → mS M' ≤ 7302250 → Q (some (vi 1)) M') : ∀ {m i : Nat} {M : Mem}, L < i + 6 * m → i ≤ 4000 → InvE M → Scp L M →
    WP (d + 1) 0 18 [some (vr 1), some (vr 2), some (vr 113), some (vi (nI i))] [] M Q := by
  intro m
  have fin : ∀ {i : Nat} {M : Mem}, InvE M → WP (d + 1) 0 1502 [some (vr 1), some (vr 2), some (vr 113), some (vi (nI i))] [] M Q := by
    intro i M I
    obtain ⟨_, _, _, x1, x2⟩ := I.ks
    simp only [k0_1502, k0_1503, eq_self, true_or, or_true]
    exact hQ M (by omega) (by omega)
  induction m with
  | zero =>
    intro i M hm hi I S
    have s1 := S.1
    have s2 := S.2
    have c1 : (Int32.ofNat L - 6 < nI i) = True := by
      show (nI L - 6 < nI i) = True
      rw [iLt, subI (by rw [nI_toInt (by omega), show (6 : Int32).toInt = 6 from rfl]; omega) (by rw [nI_toInt (by omega), show (6 : Int32).toInt = 6 from rfl]; omega), nI_toInt (by omega), nI_toInt (by omega), show (6 : Int32).toInt = 6 from rfl]
      exact eq_true (by omega)
    rw [k0_18]
    simp only [k0_19, k0_20, k0_21, k0_23, k0_24, s1, s2, Nat.reduceLeDiff, and_self, c1, if_true]
    exact fin I
  | succ m ih =>
    intro i M hm hi I S
    have s1 := S.1
    have s2 := S.2
    by_cases c : L < i + 6
    · have c1 : (Int32.ofNat L - 6 < nI i) = True := by
        show (nI L - 6 < nI i) = True
        rw [iLt, subI (by rw [nI_toInt (by omega), show (6 : Int32).toInt = 6 from rfl]; omega) (by rw [nI_toInt (by omega), show (6 : Int32).toInt = 6 from rfl]; omega), nI_toInt (by omega), nI_toInt (by omega), show (6 : Int32).toInt = 6 from rfl]
        exact eq_true (by omega)
      rw [k0_18]
      simp only [k0_19, k0_20, k0_21, k0_23, k0_24, s1, s2, Nat.reduceLeDiff, and_self, c1, if_true]
      exact fin I
    have c1 : (Int32.ofNat L - 6 < nI i) = False := by
      show (nI L - 6 < nI i) = False
      rw [iLt, subI (by rw [nI_toInt (by omega), show (6 : Int32).toInt = 6 from rfl]; omega) (by rw [nI_toInt (by omega), show (6 : Int32).toInt = 6 from rfl]; omega), nI_toInt (by omega), nI_toInt (by omega), show (6 : Int32).toInt = 6 from rfl]
      exact eq_false (by omega)
    have b0 : inb (nI i) L = True := by rw [inb_n (by omega)]; exact eq_true (by omega)
    have hi6 : i + 6 ≤ L := by omega
    have nx : ∀ M', InvE M' → Scp L M' → WP (d + 1) 0 1496 [some (vr 1), some (vr 2), some (vr 113), some (vi (nI i))] [] M' Q := by
      intro M' I' S'
      have e6 : nI i + 6 = nI (i + 6) := nI_add i 6
      simp only [k0_1496, k0_1499, e6]
      exact ih (by omega) (by omega) I' S'
    rw [k0_18]
    simp only [k0_19, k0_20, k0_21, k0_23, k0_24, k0_27, k0_28, k0_29, k0_30, k0_32, s1, s2, Nat.reduceLeDiff, and_self, c1, if_false, b0]
    generalize mI M 1 (ix (nI i)) &&& 63 = x
    by_cases hx : inb x 41
    case neg =>
      have o : x.toInt < 0 ∨ 40 < x.toInt := by
        by_cases o1 : x.toInt < 0
        · exact Or.inl o1
        · by_cases o2 : 40 < x.toInt
          · exact Or.inr o2
          · exact absurd (inbI.2 ⟨by omega, by omega⟩) hx
      rw [k0_33 o]; exact nx M I S
    obtain ⟨k, hk, rfl, _⟩ := inb_of hx
    match k, hk with
    | 0, _ => rw [nn0, k0_33c0]; exact g_girl hd I S hi6 hL nx
    | 1, _ => rw [nn1, k0_33c1]; exact g_frog hd I S hi6 hL nx
    | 2, _ => rw [nn2, k0_33c2]; exact g_frogs hd I S hi6 hL nx
    | 3, _ => rw [nn3, k0_33c3]; exact g_mend hd I S hi6 hL nx
    | 4, _ => rw [nn4, k0_33c4]; exact g_of hd I S hi6 hL nx
    | 5, _ => rw [nn5, k0_33c5]; exact g_feed hd I S hi6 hL nx
    | 6, _ => rw [nn6, k0_33c6]; exact g_law hd I S hi6 hL nx
    | 7, _ => rw [nn7, k0_33c7]; exact g_loses hd I S hi6 hL nx
    | 8, _ => rw [nn8, k0_33c8]; exact g_later hd I S hi6 hL nx
    | 9, _ => rw [nn9, k0_33c9]; exact g_marsh hd I S hi6 hL nx
    | 10, _ => rw [nn10, k0_33c10]; exact g_backWhen hd I S hi6 hL nx
    | 11, _ => rw [nn11, k0_33c11]; exact g_loan hd I S hi6 hL nx
    | 12, _ => rw [nn12, k0_33c12]; exact g_best hd I S hi6 hL nx
    | 13, _ => rw [nn13, k0_33c13]; exact g_dealt hd I S hi6 hL nx
    | 14, _ => rw [nn14, k0_33c14]; exact g_least hd I S hi6 hL nx
    | 15, _ => rw [nn15, k0_33c15]; exact g_bars hd I S hi6 hL nx
    | 16, _ => rw [nn16, k0_33c16]; exact g_stops hd I S hi6 hL nx
    | 17, _ => rw [nn17, k0_33c17]; exact g_judge hd I S hi6 hL nx
    | 18, _ => rw [nn18, k0_33c18]; exact g_fits hd I S hi6 hL nx
    | 19, _ => rw [nn19, k0_33c19]; exact g_alike hd I S hi6 hL nx
    | 20, _ => rw [nn20, k0_33c20]; exact g_ring hd I S hi6 hL nx
    | 21, _ => rw [nn21, k0_33c21]; exact g_byTurns hd I S hi6 hL nx
    | 22, _ => rw [nn22, k0_33c22]; exact g_drawn hd I S hi6 hL nx
    | 23, _ => rw [nn23, k0_33c23]; exact g_hour hd I S hi6 hL nx
    | 24, _ => rw [nn24, k0_33c24]; exact g_lends hd I S hi6 hL nx
    | 25, _ => rw [nn25, k0_33c25]; exact g_over hd I S hi6 hL nx
    | 26, _ => rw [nn26, k0_33c26]; exact g_led hd I S hi6 hL nx
    | 27, _ => rw [nn27, k0_33c27]; exact g_image hd I S hi6 hL nx
    | 28, _ => rw [nn28, k0_33c28]; exact g_back hd I S hi6 hL nx
    | 29, _ => rw [nn29, k0_33c29]; exact g_undo hd I S hi6 hL nx
    | 30, _ => rw [nn30, k0_33c30]; exact g_redo hd I S hi6 hL nx
    | 31, _ => rw [nn31, k0_33c31]; exact g_body hd I S hi6 hL nx
    | 32, _ => rw [nn32, k0_33c32]; exact g_act hd I S hi6 hL nx
    | 33, _ => rw [nn33, k0_33c33]; exact g_trace hd I S hi6 hL nx
    | 34, _ => rw [nn34, k0_33c34]; exact g_keep hd I S hi6 hL nx
    | 35, _ => rw [nn35, k0_33c35]; exact g_row hd I S hi6 hL nx
    | 36, _ => rw [nn36, k0_33c36]; exact g_put hd I S hi6 hL nx
    | 37, _ => rw [nn37, k0_33c37]; exact g_element hd I S hi6 hL nx
    | 38, _ => rw [nn38, k0_33c38]; exact g_shift hd I S hi6 hL nx
    | 39, _ => rw [nn39, k0_33c39]; exact g_taken hd I S hi6 hL nx
    | 40, _ => rw [nn40, k0_33c40]; exact g_count hd I S hi6 hL nx
    | k + 41, hk => omega
end GL
