

theorem rkP_z {D : zBk} {H : Nat → Prop} (w : WF D) (x : Int) : zr (rkP D H x) := by
  have hn := w.1.1
  unfold rkP atR
  rcases zfst_cases (fun k => rkn (ahd D H) (D 1 0).toNat k = x) (D 1 0).toNat with ⟨h, _⟩ | ⟨i, h1, h2, _⟩
  · rw [h]; unfold zr; omega
  · rw [h2]; unfold zr; omega
theorem wY_b {D : zBk} (w : WF D) (h1 : 1 ≤ D 1 0) : 1450 ≤ wY D (Ht D) ∧ wY D (Ht D) ≤ 1999 := by
  have a := dec_b w h1 (c := 0)
  have b := (w.2.1 _ (wP_l (H := Ht D) w h1)).2
  unfold works at a
  omega



