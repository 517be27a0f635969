section GBegin
variable {C D : Mem} {n sp t : Nat} {hl : Nat → Nat}
theorem dlL_get {x : Int} {k j : Nat} (h : j < k) : (dlL x k).getD j 0 = 4096 + dlV x j := by
  simp [dlL, List.getD_eq_getElem?_getD, h]
theorem de_o {d x : Int} {a b : Nat} (h : a ≠ 1 ∧ a ≠ 2 ∧ a ≠ 4 ∧ a ≠ 5 ∧ a ≠ 7 ∧ a ≠ 9 ∧ a ≠ 11 ∧ a ≠ 13 ∧ a ≠ 17 ∧ a ≠ 19 ∧ a ≠ 21) : deM C d x a b = C a b := by
  unfold deM
  rw [wr_app, if_neg (by omega), wr_app, if_neg (by omega), wr_app, if_neg (by omega), wr_app, if_neg (by omega), wr_app, if_neg (by omega), toS_o (by omega), wp_app, if_neg (by omega), wp_app, if_neg (by omega), wp_app, if_neg (by omega), wr_app, if_neg (by omega), layP_o (by omega) (by omega), wr_app, if_neg (by omega)]
theorem de_1 {d x : Int} : deM C d x 1 3 = ltI x 16 ∧ deM C d x 1 4 = 0 ∧ deM C d x 1 5 = 0 ∧ deM C d x 1 6 = 0 ∧ deM C d x 1 7 = 25 ∧ deM C d x 1 8 = 0 ∧ deM C d x 1 9 = C 1 9 := by
  unfold deM
  refine ⟨?_, ?_, ?_, ?_, ?_, ?_, ?_⟩
  · rw [wr_app, if_neg (by omega), wr_app, if_neg (by omega), wr_app, if_neg (by omega), wr_app, if_neg (by omega), wr_app, if_neg (by omega), toS_o (by omega), wp_app, if_neg (by omega), wp_app, if_neg (by omega), wp_app, if_neg (by omega), wr_app, if_neg (by omega), layP_o (by omega) (by omega), wr_app, if_pos ⟨rfl, rfl⟩]
  · rw [wr_app, if_neg (by omega), wr_app, if_neg (by omega), wr_app, if_neg (by omega), wr_app, if_neg (by omega), wr_app, if_pos ⟨rfl, rfl⟩]
  · rw [wr_app, if_neg (by omega), wr_app, if_neg (by omega), wr_app, if_neg (by omega), wr_app, if_pos ⟨rfl, rfl⟩]
  · rw [wr_app, if_neg (by omega), wr_app, if_neg (by omega), wr_app, if_pos ⟨rfl, rfl⟩]
  · rw [wr_app, if_neg (by omega), wr_app, if_pos ⟨rfl, rfl⟩]
  · rw [wr_app, if_pos ⟨rfl, rfl⟩]
  · rw [wr_app, if_neg (by omega), wr_app, if_neg (by omega), wr_app, if_neg (by omega), wr_app, if_neg (by omega), wr_app, if_neg (by omega), toS_o (by omega), wp_app, if_neg (by omega), wp_app, if_neg (by omega), wp_app, if_neg (by omega), wr_app, if_neg (by omega), layP_o (by omega) (by omega), wr_app, if_neg (by omega)]
theorem de_5 {d x : Int} : deM C d x 5 8 = d := by
  unfold deM
  rw [wr_app, if_neg (by omega), wr_app, if_neg (by omega), wr_app, if_neg (by omega), wr_app, if_neg (by omega), wr_app, if_neg (by omega), toS_o (by omega), wp_app, if_neg (by omega), wp_app, if_neg (by omega), wp_app, if_neg (by omega), wr_app, if_pos ⟨rfl, rfl⟩]
theorem de_2 {d x : Int} : deM C d x 2 1 = 16 := by
  unfold deM
  rw [wr_app, if_neg (by omega), wr_app, if_neg (by omega), wr_app, if_neg (by omega), wr_app, if_neg (by omega), wr_app, if_neg (by omega), toS_o (by omega), wp_app, if_neg (by omega), wp_app, if_neg (by omega), wp_app, if_neg (by omega), wr_app, if_neg (by omega), layP_sp, dlL_len]
  rfl
theorem de_4 {d x : Int} {s : Nat} (hs : s < 16) : deM C d x 4 (s + 1) = 4096 + dlV x s := by
  unfold deM
  rw [wr_app, if_neg (by omega), wr_app, if_neg (by omega), wr_app, if_neg (by omega), wr_app, if_neg (by omega), wr_app, if_neg (by omega), toS_o (by omega), wp_app, if_neg (by omega), wp_app, if_neg (by omega), wp_app, if_neg (by omega), wr_app, if_neg (by omega)]
  have := layP_at (M := wr C 1 3 (ltI x 16)) (b := 0) (L := dlL x 16) (k := s) (by rw [dlL_len]; exact hs)
  rw [dlL_get hs, Nat.zero_add, Nat.add_comm] at this
  exact this
theorem de_0 {d x : Int} {a b : Nat} (h : a = 7 ∨ a = 9 ∨ a = 11 ∨ a = 13 ∨ a = 17 ∨ a = 19 ∨ a = 21) (hb : b < 4) : deM C d x a b = 0 := by
  unfold deM
  rw [wr_app, if_neg (by omega), wr_app, if_neg (by omega), wr_app, if_neg (by omega), wr_app, if_neg (by omega), wr_app, if_neg (by omega)]
  unfold toS
  rw [wp_app, wp_app, wp_app, wp_app, wp_app, wp_app, wp_app]
  rcases h with rfl | rfl | rfl | rfl | rfl | rfl | rfl
  · rw [if_neg (by omega), if_neg (by omega), if_neg (by omega), if_pos ⟨rfl, hb⟩]
  · rw [if_neg (by omega), if_neg (by omega), if_pos ⟨rfl, hb⟩]
  · rw [if_neg (by omega), if_pos ⟨rfl, hb⟩]
  · rw [if_pos ⟨rfl, hb⟩]
  · rw [if_neg (by omega), if_neg (by omega), if_neg (by omega), if_neg (by omega), if_neg (by omega), if_neg (by omega), if_pos ⟨rfl, hb⟩]
  · rw [if_neg (by omega), if_neg (by omega), if_neg (by omega), if_neg (by omega), if_neg (by omega), if_pos ⟨rfl, hb⟩]
  · rw [if_neg (by omega), if_neg (by omega), if_neg (by omega), if_neg (by omega), if_pos ⟨rfl, hb⟩]
theorem gbZ_v {d x : Int} {b : Nat} (hb : b < 77) : gbZ D d x 150 b = if b = 8 then 16 else if b = 5 then x else if b = 0 then d else if b = 7 then D 150 7 else 0 := by
  unfold gbZ
  rw [wr_app, wr_app, wr_app, wr_app, wp_app]
  by_cases h8 : b = 8
  · rw [if_pos ⟨rfl, h8⟩, if_pos h8]
  · rw [if_neg (fun z => h8 z.2), if_neg h8]
    by_cases h5 : b = 5
    · rw [if_pos ⟨rfl, h5⟩, if_pos h5]
    · rw [if_neg (fun z => h5 z.2), if_neg h5]
      by_cases h0 : b = 0
      · rw [if_pos ⟨rfl, h0⟩, if_pos h0]
      · rw [if_neg (fun z => h0 z.2), if_neg h0]
        by_cases h7 : b = 7
        · rw [if_pos ⟨rfl, h7⟩, if_pos h7]
        · rw [if_neg (fun z => h7 z.2), if_neg h7, if_pos ⟨rfl, hb⟩]
theorem gbR_lo {d x : Int} {b : Nat} (hb : b < 9) (h4 : b ≠ 4) : gbR D d x n 150 b = if b = 8 then 16 else if b = 5 then ltI x 16 else if b = 0 then d else if b = 7 then D 150 7 else 0 := by
  unfold gbR
  rw [bgR_o (by omega)]
  unfold gbM
  rw [putL_lt (by omega), wr_app]
  by_cases h5 : b = 5
  · rw [if_pos ⟨rfl, h5⟩, if_neg (by omega), if_pos h5]
  · rw [if_neg (fun z => h5 z.2), gbZ_v (by omega), if_neg h5, if_neg h5]
theorem gbR_p {d x : Int} {s : Nat} (hs : s < 16) : gbR D d x n 150 (9 + s) = dlV x s + 1 := by
  unfold gbR
  rw [bgR_o (by omega)]
  unfold gbM
  rw [putL_at (by rw [gbL_len]; exact hs), gbL_get hs]
theorem gbR_s {d' x : Int} {d w : Nat} (hd : d < n) (hn : n ≤ 4) (hw : w < 13) : gbR D d' x n 150 (sl d w) = 0 := by
  have s := sl_div (d := d) (w := w) hw
  have s2 := sl_l (d := d) (w := w) (by omega) hw
  unfold gbR
  rw [bgR_s hd hw]
  by_cases c : w < 10
  · rw [if_pos c]
  · rw [if_neg c]
    unfold gbM
    rw [putL_ge (by rw [gbL_len]; omega), wr_app, if_neg (by omega), gbZ_v s2, if_neg (by omega), if_neg (by omega), if_neg (by omega), if_neg (by omega)]
theorem de_fr {d x : Int} : frC C (deM C d x) := fun a b h => de_o (by omega)
theorem gb_fr {d x : Int} : frD D (gbR D d x n) := by
  intro a b h1 h2 h3
  unfold gbR
  rw [bgR_o (by omega)]
  unfold gbM gbZ
  rw [putL_o h1, wr_app, if_neg (by omega), wr_app, if_neg (by omega), wr_app, if_neg (by omega), wr_app, if_neg (by omega), wr_app, if_neg (by omega), wp_app, if_neg (by omega)]
theorem psum_1 {x : Int} {s : Nat} (hs : s < 16) : psum (4096 + dlV x s) = dlV x s := by
  have := dlV_b (x := x) hs
  unfold psum
  omega
theorem RB_begin (hr : D 150 7 = C 1 9) (h2 : 2 ≤ n) (hn : n ≤ 4) {x : Int} (h0 : 0 ≤ x) (h1 : x ≤ 9999) : RB (deM C n x) (gbR D n x n) n 16 0 (fun _ => 0) := by
  obtain ⟨v3, v4, v5, v6, v7, v8, v9⟩ := de_1 (C := C) (d := (n : Int)) (x := x)
  have w4 : gbR D n x n 150 4 = 25 := by unfold gbR; exact bgR_4
  exact RB.make
    (cN := ⟨de_5, hn⟩)
    (mN := ⟨by rw [gbR_lo (by omega) (by omega)]; rfl, hn⟩)
    (n2 := h2)
    (cS := ⟨de_2, by omega⟩)
    (mS := ⟨by rw [gbR_lo (by omega) (by omega)]; rfl, by omega⟩)
    (pa := fun s hs => by
      have := dlV_b (x := x) hs
      rw [de_4 hs, gbR_p hs]
      exact Or.inr ⟨dlV x s, 0, 0, by omega, Or.inl ⟨rfl, rfl, rfl, rfl⟩⟩)
    (ch := fun d hd => ⟨by omega, by rw [de_0 (by omega) (by omega)]; rfl⟩)
    (mh := fun d hd => ⟨by omega, by rw [gbR_s hd hn (by omega)]; rfl⟩)
    (ks := fun d hd i hi => by omega)
    (pl := fun d hd => ⟨0, by omega, by rw [de_0 (by omega) (by omega)]; rfl⟩)
    (ml := fun d hd => by rw [gbR_s hd hn (by omega), de_0 (by omega) (by omega)])
    (uq := fun d e hd he _ => Or.inr (de_0 (by omega) (by omega)))
    (up := fun d hd => by rw [gbR_s hd hn (by omega), de_0 (by omega) (by omega)])
    (u1 := fun d hd => Or.inl (de_0 (by omega) (by omega)))
    (ho := fun d hd => by rw [gbR_s hd hn (by omega), de_0 (by omega) (by omega)])
    (h1 := fun d hd => Or.inl (de_0 (by omega) (by omega)))
    (hp := fun d hd _ => de_0 (by omega) (by omega))
    (uh := fun d hd q => by rw [de_0 (by omega) (by omega)] at q; omega)
    (sc := fun d hd => by rw [gbR_s hd hn (by omega), de_0 (by omega) (by omega)])
    (ow := fun d hd => by rw [gbR_s hd hn (by omega), de_0 (by omega) (by omega)])
    (dr := fun d hd => by rw [gbR_s hd hn (by omega), de_0 (by omega) (by omega)])
    (z := fun d h1 h2 => ⟨de_0 (by omega) (by omega), de_0 (by omega) (by omega), de_0 (by omega) (by omega)⟩)
    (lot := by rw [gbR_lo (by omega) (by omega), v3]; rfl)
    (l1 := by rw [v3]; exact ltI_b h0 h1 16)
    (tank := by rw [w4, v7])
    (k1 := by rw [v7]; omega)
    (dice := by rw [gbR_lo (by omega) (by omega), v8]; rfl)
    (ref := by rw [gbR_lo (by omega) (by omega), v9]; exact hr)
    (tt := by rw [v5]; rfl)
    (tn := by omega)
    (rd := by rw [gbR_lo (by omega) (by omega), v4]; rfl)
    (o1 := fun d hd => by rw [de_0 (by omega) (by omega)]; omega)
    (co := by
      have z1 : sumN (tr1 (deM C n x) (fun _ => 0)) n = 0 := sumN_0 n (fun d hd => rfl)
      have z2 : sumN (deM C n x 19) 4 = 0 := sumN_0 4 (fun d hd => de_0 (by omega) hd)
      have z3 : sumN (fun s => pcnt (deM C n x 4 (s + 1))) 16 = sumN (fun _ => 1) 16 := sumN_congr 16 (fun s hs => by
        show pcnt (deM C n x 4 (s + 1)) = 1
        have := dlV_b (x := x) hs
        rw [de_4 hs]
        unfold pcnt
        omega)
      rw [z1, z2, z3]
      rfl)
theorem G_begin (hG : RG C D) (P : PMem) (h2 : 2 ≤ n) (hn : n ≤ 4) {x : Int} (h0 : 0 ≤ x) (h1 : x ≤ 9999) : ∃ (v : Int) (C' : Mem), evM 27 [Rf 1, I (n : Int), I x] (Hp C P) = some (none, Hp C' P) ∧ evM 32 [Rf 1] (Hp C' P) = some (some (I v), Hp C' P) ∧ frC C C' ∧ ∀ D' : Mem, (∀ b, D' 150 b = D 150 b) → ∃ E, evM 129 [Rf 149, I (n : Int), I x] (Hp D' P) = some (some (I v), Hp E P) ∧ RG C' E ∧ frD D' E := by
  obtain ⟨_, _, _, _, h, _⟩ := hG
  have hB := RB_begin (C := C) (D := D) h.ref h2 hn h0 h1
  refine ⟨sumN (dlV x) 16, deM C n x, g_deal h0 h1, ?_, de_fr, fun D' ha => ?_⟩
  · have hv := g_allV (M := deM C n x) (P := P) hB.cN hB.ch (fun d hd i hi => by omega) hB.cS (fun s hs => by have := encB_c (hB.pa s hs); omega)
    rw [hv]
    have z1 : sumN (fun s => psum (deM C n x 4 (s + 1))) 16 = sumN (dlV x) 16 := sumN_congr 16 (fun s hs => by
      show psum (deM C n x 4 (s + 1)) = _
      rw [de_4 hs, psum_1 hs])
    have z2 : sumN (va1 (deM C n x) (fun _ => 0)) n = 0 := sumN_0 n (fun d hd => rfl)
    have z3 : sumA (deM C n x 17) 4 = 0 := by
      simp only [sumA]
      rw [de_0 (by omega) (by omega), de_0 (by omega) (by omega), de_0 (by omega) (by omega), de_0 (by omega) (by omega)]
      rfl
    have hs := sumN_b (f := dlV x) (B := 15) 16 (fun j hj => dlV_b (by omega))
    rw [z1, z2, z3, ad_0]
    · rw [Int.add_zero]
    · exact ⟨by omega, by omega⟩
  · have hB' := RB_begin (C := C) (D := D') (by rw [ha]; exact h.ref) h2 hn h0 h1
    refine ⟨gbR D' n x n, m_goBegin h0 h1 hn, ⟨n, 16, 0, _, hB', ?_⟩, gb_fr⟩
    obtain ⟨v3, v4, v5, v6, v7, v8, v9⟩ := de_1 (C := C) (d := (n : Int)) (x := x)
    left
    refine ⟨by rw [v4]; omega, by rw [v4]; omega, ?_, ?_, Or.inr ⟨v6, de_0 (by omega) (by omega)⟩⟩
    · rw [gbR_lo (by omega) (by omega)]; rfl
    · rw [gbR_lo (by omega) (by omega), v6]; rfl
end GBegin
