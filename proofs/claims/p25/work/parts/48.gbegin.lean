section GBegin
variable {C : Mem} {n sp t : Nat} {hl : Nat → Nat}
theorem dlL_get {x : Int} {k j : Nat} (h : j < k) : (dlL x k).getD j 0 = 4096 + dlV x j := by
  simp [dlL, List.getD_eq_getElem?_getD, h]
theorem de_o {d x : Int} {a b : Nat} (h : a ≠ 1 ∧ a ≠ 2 ∧ a ≠ 4 ∧ a ≠ 5 ∧ a ≠ 7 ∧ a ≠ 9 ∧ a ≠ 11 ∧ a ≠ 13 ∧ a ≠ 17 ∧ a ≠ 19 ∧ a ≠ 21) : deM C d x a b = C a b := by
  unfold deM
  rw [wr_app, if_neg (by omega), wr_app, if_neg (by omega), wr_app, if_neg (by omega), wr_app, if_neg (by omega), wr_app, if_neg (by omega), toS_o (by omega), wp_app, if_neg (by omega), wp_app, if_neg (by omega), wp_app, if_neg (by omega), wr_app, if_neg (by omega), layP_o (by omega) (by omega), wr_app, if_neg (by omega)]
theorem de_1 {d x : Int} : deM C d x 1 3 = ltI x 16 ∧ deM C d x 1 4 = 0 ∧ deM C d x 1 5 = 0 ∧ deM C d x 1 6 = 0 ∧ deM C d x 1 7 = 25 ∧ deM C d x 1 8 = 0 ∧ deM C d x 1 9 = C 1 9 := by
  unfold deM
  refine ⟨?_, ?_, ?_, ?_, ?_, ?_, ?_⟩
  · rw [wr_app, if_neg (by omega), wr_app, if_neg (by omega), wr_app, if_neg (by omega), wr_app, if_neg (by omega), wr_app, if_neg (by omega), toS_o (by omega), wp_app, if_neg (by omega), wp_app, if_neg (by omega), wp_app, if_neg (by omega), wr_app, if_neg (by omega), layP_o (by omega) (by omega), wr_app, if_pos ⟨rfl, rfl⟩]
  · rw [wr_app, if_neg (by omega), wr_app, if_neg (by omega), wr_app, if_neg (by omega), wr_app, if_neg (by omega), wr_app, if_pos ⟨rfl, rfl⟩]
  · rw [wr_app, if_neg (by omega), wr_app, if_neg (by omega), wr_app, if_neg (by omega), wr_app, if_pos ⟨rfl, rfl⟩]
  · rw [wr_app, if_neg (by omega), wr_app, if_neg (by omega), wr_app, if_pos ⟨rfl, rfl⟩]
  · rw [wr_app, if_neg (by omega), wr_app, if_pos ⟨rfl, rfl⟩]
  · rw [wr_app, if_pos ⟨rfl, rfl⟩]
  · rw [wr_app, if_neg (by omega), wr_app, if_neg (by omega), wr_app, if_neg (by omega), wr_app, if_neg (by omega), wr_app, if_neg (by omega), toS_o (by omega), wp_app, if_neg (by omega), wp_app, if_neg (by omega), wp_app, if_neg (by omega), wr_app, if_neg (by omega), layP_o (by omega) (by omega), wr_app, if_neg (by omega)]
theorem de_5 {d x : Int} : deM C d x 5 8 = d := by
  unfold deM
  rw [wr_app, if_neg (by omega), wr_app, if_neg (by omega), wr_app, if_neg (by omega), wr_app, if_neg (by omega), wr_app, if_neg (by omega), toS_o (by omega), wp_app, if_neg (by omega), wp_app, if_neg (by omega), wp_app, if_neg (by omega), wr_app, if_pos ⟨rfl, rfl⟩]
theorem de_2 {d x : Int} : deM C d x 2 1 = 16 := by
  unfold deM
  rw [wr_app, if_neg (by omega), wr_app, if_neg (by omega), wr_app, if_neg (by omega), wr_app, if_neg (by omega), wr_app, if_neg (by omega), toS_o (by omega), wp_app, if_neg (by omega), wp_app, if_neg (by omega), wp_app, if_neg (by omega), wr_app, if_neg (by omega), layP_sp, dlL_len]
  rfl
theorem de_4 {d x : Int} {s : Nat} (hs : s < 16) : deM C d x 4 (s + 1) = 4096 + dlV x s := by
  unfold deM
  rw [wr_app, if_neg (by omega), wr_app, if_neg (by omega), wr_app, if_neg (by omega), wr_app, if_neg (by omega), wr_app, if_neg (by omega), toS_o (by omega), wp_app, if_neg (by omega), wp_app, if_neg (by omega), wp_app, if_neg (by omega), wr_app, if_neg (by omega)]
  have := layP_at (M := wr C 1 3 (ltI x 16)) (b := 0) (L := dlL x 16) (k := s) (by rw [dlL_len]; exact hs)
  rw [dlL_get hs, Nat.zero_add, Nat.add_comm] at this
  exact this
theorem de_0 {d x : Int} {a b : Nat} (h : a = 7 ∨ a = 9 ∨ a = 11 ∨ a = 13 ∨ a = 17 ∨ a = 19 ∨ a = 21) (hb : b < 4) : deM C d x a b = 0 := by
  unfold deM
  rw [wr_app, if_neg (by omega), wr_app, if_neg (by omega), wr_app, if_neg (by omega), wr_app, if_neg (by omega), wr_app, if_neg (by omega)]
  unfold toS
  rw [wp_app, wp_app, wp_app, wp_app, wp_app, wp_app, wp_app]
  rcases h with rfl | rfl | rfl | rfl | rfl | rfl | rfl
  · rw [if_neg (by omega), if_neg (by omega), if_neg (by omega), if_pos ⟨rfl, hb⟩]
  · rw [if_neg (by omega), if_neg (by omega), if_pos ⟨rfl, hb⟩]
  · rw [if_neg (by omega), if_pos ⟨rfl, hb⟩]
  · rw [if_pos ⟨rfl, hb⟩]
  · rw [if_neg (by omega), if_neg (by omega), if_neg (by omega), if_neg (by omega), if_neg (by omega), if_neg (by omega), if_pos ⟨rfl, hb⟩]
  · rw [if_neg (by omega), if_neg (by omega), if_neg (by omega), if_neg (by omega), if_neg (by omega), if_pos ⟨rfl, hb⟩]
  · rw [if_neg (by omega), if_neg (by omega), if_neg (by omega), if_neg (by omega), if_pos ⟨rfl, hb⟩]
theorem de_fr {d x : Int} : frC C (deM C d x) := fun a b h => de_o (by omega)
theorem psum_1 {x : Int} {s : Nat} (hs : s < 16) : psum (4096 + dlV x s) = dlV x s := by
  have := dlV_b (x := x) hs
  unfold psum
  omega
theorem CB_begin (h2 : 2 ≤ n) (hn : n ≤ 4) {x : Int} (h0 : 0 ≤ x) (h1 : x ≤ 9999) : CB (deM C n x) n 16 0 (fun _ => 0) := by
  obtain ⟨v3, v4, v5, v6, v7, v8, v9⟩ := de_1 (C := C) (d := (n : Int)) (x := x)
  exact CB.make
    (cN := ⟨de_5, hn⟩)
    (n2 := h2)
    (cS := ⟨de_2, by omega⟩)
    (pa := fun s hs => by
      have := dlV_b (x := x) hs
      rw [de_4 hs]
      exact Or.inr (by omega))
    (ch := fun d hd => ⟨by omega, by rw [de_0 (by omega) (by omega)]; rfl⟩)
    (ks := fun d hd i hi => by omega)
    (pl := fun d hd => ⟨0, by omega, by rw [de_0 (by omega) (by omega)]; rfl⟩)
    (uq := fun d e hd he _ => Or.inr (de_0 (by omega) (by omega)))
    (u1 := fun d hd => Or.inl (de_0 (by omega) (by omega)))
    (h1 := fun d hd => Or.inl (de_0 (by omega) (by omega)))
    (hp := fun d hd _ => de_0 (by omega) (by omega))
    (uh := fun d hd q => by rw [de_0 (by omega) (by omega)] at q; omega)
    (z := fun d h1 h2 => ⟨de_0 (by omega) (by omega), de_0 (by omega) (by omega), de_0 (by omega) (by omega)⟩)
    (l1 := by rw [v3]; exact ltI_b h0 h1 16)
    (k1 := by rw [v7]; omega)
    (tt := by rw [v5]; rfl)
    (tn := by omega)
    (o1 := fun d hd => by rw [de_0 (by omega) (by omega)]; omega)
    (co := by
      have z1 : sumN (tr1 (deM C n x) (fun _ => 0)) n = 0 := sumN_0 n (fun d hd => rfl)
      have z2 : sumN (deM C n x 19) 4 = 0 := sumN_0 4 (fun d hd => de_0 (by omega) hd)
      have z3 : sumN (fun s => pcnt (deM C n x 4 (s + 1))) 16 = sumN (fun _ => 1) 16 := sumN_congr 16 (fun s hs => by
        show pcnt (deM C n x 4 (s + 1)) = 1
        have := dlV_b (x := x) hs
        rw [de_4 hs]
        unfold pcnt
        omega)
      rw [z1, z2, z3]
      rfl)
    (dr := fun d hd => by rw [de_0 (by omega) (by omega), v4]; omega)
    (di := by rw [v8]; omega)
    (ov := fun x => by rw [v4] at x; omega)
theorem begin_val (h2 : 2 ≤ n) (hn : n ≤ 4) {P : PMem} {x : Int} (h0 : 0 ≤ x) (h1 : x ≤ 9999) : evM 32 [Rf 1] (Hp (deM C n x) P) = some (some (I (sumN (fun s => psum (deM C n x 4 (s + 1))) 16)), Hp (deM C n x) P) := by
  have hB := CB_begin (C := C) h2 hn h0 h1
  have hv := g_allV (M := deM C n x) (P := P) hB.cN hB.ch (fun d hd i hi => by omega) hB.cS (fun s hs => pa_nn hB hs)
  rw [hv]
  have z2 : sumN (va1 (deM C n x) (fun _ => 0)) n = 0 := sumN_0 n (fun d hd => rfl)
  have z3 : sumA (deM C n x 17) 4 = 0 := by
    simp only [sumA]
    rw [de_0 (by omega) (by omega), de_0 (by omega) (by omega), de_0 (by omega) (by omega), de_0 (by omega) (by omega)]
    rfl
  have hs := sumN_b (f := fun s => psum (deM C n x 4 (s + 1))) (B := 45) 16 (fun j hj => psum_b _)
  rw [z2, z3, ad_0]
  · rw [Int.add_zero]
  · exact ⟨by omega, by omega⟩
end GBegin
