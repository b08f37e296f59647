section MAK2
variable {L : Nat} {X : Nat → Int}
theorem e152 : ∃ n, ax_run L X n 59 152 0 (ax_loc [(2, 142)] (ax_ml 152)) [] (SH.take 143) (ofT T152_0) = some ([], SH, ofT T0) := by
  have x0 : T152_0.length = (SH.take 143).length := by decide +kernel
  have x1 := (sseg_ok (L := L) (X := X) (d := 59) _ _ _ _ _ _ _ _ _ _ _ _ x0 z152_0).1
  have x2 := (sseg_ok (L := L) (X := X) (d := 59) _ _ _ _ _ _ _ _ _ _ _ _ x1 z152_1).1
  have x3 := (sseg_ok (L := L) (X := X) (d := 59) _ _ _ _ _ _ _ _ _ _ _ _ x2 z152_2).1
  have x4 := (sseg_ok (L := L) (X := X) (d := 59) _ _ _ _ _ _ _ _ _ _ _ _ x3 z152_3).1
  have x5 := (sseg_ok (L := L) (X := X) (d := 59) _ _ _ _ _ _ _ _ _ _ _ _ x4 z152_4).1
  have x6 := (sseg_ok (L := L) (X := X) (d := 59) _ _ _ _ _ _ _ _ _ _ _ _ x5 z152_5).1
  have x7 := (sseg_ok (L := L) (X := X) (d := 59) _ _ _ _ _ _ _ _ _ _ _ _ x6 z152_6).1
  have x8 := (sseg_ok (L := L) (X := X) (d := 59) _ _ _ _ _ _ _ _ _ _ _ _ x7 z152_7).1
  have x9 := (sseg_ok (L := L) (X := X) (d := 59) _ _ _ _ _ _ _ _ _ _ _ _ x8 z152_8).1
  have x10 := (sseg_ok (L := L) (X := X) (d := 59) _ _ _ _ _ _ _ _ _ _ _ _ x9 z152_9).1
  have x11 := (sseg_ok (L := L) (X := X) (d := 59) _ _ _ _ _ _ _ _ _ _ _ _ x10 z152_10).1
  have x12 := (sseg_ok (L := L) (X := X) (d := 59) _ _ _ _ _ _ _ _ _ _ _ _ x11 z152_11).1
  have x13 := (sseg_ok (L := L) (X := X) (d := 59) _ _ _ _ _ _ _ _ _ _ _ _ x12 z152_e).1
  have f : ∃ n, ax_run L X n 59 152 1314 [(2, 142)] [] SH (ofT T0) = some ([], SH, ofT T0) := by
    have ho : ax_at 152 1314 = some (28, 2, 0, 0) := by decide +kernel
    exact ⟨1, by rw [ax_run, ho]; rfl⟩
  have f := (sseg_ok (L := L) (X := X) (d := 59) _ _ _ _ _ _ _ _ _ _ _ _ x12 z152_e).2 _ f
  have f := (sseg_ok (L := L) (X := X) (d := 59) _ _ _ _ _ _ _ _ _ _ _ _ x11 z152_11).2 _ f
  have f := (sseg_ok (L := L) (X := X) (d := 59) _ _ _ _ _ _ _ _ _ _ _ _ x10 z152_10).2 _ f
  have f := (sseg_ok (L := L) (X := X) (d := 59) _ _ _ _ _ _ _ _ _ _ _ _ x9 z152_9).2 _ f
  have f := (sseg_ok (L := L) (X := X) (d := 59) _ _ _ _ _ _ _ _ _ _ _ _ x8 z152_8).2 _ f
  have f := (sseg_ok (L := L) (X := X) (d := 59) _ _ _ _ _ _ _ _ _ _ _ _ x7 z152_7).2 _ f
  have f := (sseg_ok (L := L) (X := X) (d := 59) _ _ _ _ _ _ _ _ _ _ _ _ x6 z152_6).2 _ f
  have f := (sseg_ok (L := L) (X := X) (d := 59) _ _ _ _ _ _ _ _ _ _ _ _ x5 z152_5).2 _ f
  have f := (sseg_ok (L := L) (X := X) (d := 59) _ _ _ _ _ _ _ _ _ _ _ _ x4 z152_4).2 _ f
  have f := (sseg_ok (L := L) (X := X) (d := 59) _ _ _ _ _ _ _ _ _ _ _ _ x3 z152_3).2 _ f
  have f := (sseg_ok (L := L) (X := X) (d := 59) _ _ _ _ _ _ _ _ _ _ _ _ x2 z152_2).2 _ f
  have f := (sseg_ok (L := L) (X := X) (d := 59) _ _ _ _ _ _ _ _ _ _ _ _ x1 z152_1).2 _ f
  have f := (sseg_ok (L := L) (X := X) (d := 59) _ _ _ _ _ _ _ _ _ _ _ _ x0 z152_0).2 _ f
  exact f
end MAK2
