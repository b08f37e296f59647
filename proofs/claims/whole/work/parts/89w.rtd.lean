def KX (M M' : ax_M) : Prop := Sb XHO M M' ∧ KH M M'
def RPo (T : Nat → Int) (n : Nat) (F : SRs) (M M' : ax_M) : Prop := KX M M' ∧ ((∃ f p, f ≠ 0 ∧ BF f p M' ∧ F = .inl (f, p)) ∨ ∃ q' s', F = .inr (q', s') ∧ RT T n q' M' ∧ RHo s' M')
theorem KX.refl {M : ax_M} : KX M M := ⟨Sb.refl, KH.refl⟩
theorem KX.th {M M1 M2 : ax_M} {W : ax_W} (h : KX M M1) (hS : Sb W M1 M2) (h1 : wle W XHO = true) (h2 : rok W) : KX M M2 := ⟨h.1.then hS h1, h.2.sb hS h2⟩
theorem KX.nm {M M1 M2 : ax_M} (h : KX M M1) (hS : Sb XNM M1 M2) : KX M M2 := h.th hS rfl rNM
theorem KX.ak {M M1 M2 : ax_M} (h : KX M M1) (hS : Sb XAK M1 M2) : KX M M2 := h.th hS rfl rAK
theorem KX.up {M M1 : ax_M} (h : KX M M1) {a i : Nat} {x : Int} (h1 : wb XHO a i = true) (hi : a = 179 ∨ i < hlf a ∨ a < 176) : KX M (ax_up M1 a i x) := ⟨h.1.up h1, h.2.up hi⟩
theorem wXHO : wok XHO = true := by decide +kernel
theorem wdX : wdok XHO = true := by decide +kernel
theorem RT.cl {T : Nat → Int} {n : Nat} {q : PS} {M M1 : ax_M} (h : RT T n q M) (e : ∀ a k, a ≤ 143 → 142 ≤ a → M1 a k = M a k) : RT T n q M1 := by
  have e2 : ∀ k, M1 142 k = M 142 k := fun k => e 142 k (by decide) (by decide)
  obtain ⟨a1, ⟨a, a2, a3⟩, a4, a5, a6, a7⟩ := h
  exact ⟨(e2 3).trans a1, ⟨a, (e2 2).trans a2, a3⟩, by rw [e2]; exact a4, fun i hi => (e 143 i (by decide) (by decide)).trans (a5 i hi), (e2 5).trans a6, (e2 6).trans a7⟩
section RTD
variable {L : Nat} {X : Nat → Int} {M M1 : ax_M} {n l : Nat} {s : HS} {T : Nat → Int} {q : PS}
theorem RHo.room (h : RHo s M) (hlt : s.1.1 < 8) {m : Nm} : RHo (vadd s.1 m, s.2) (ax_up (ax_up M 177 (8 * 0 + s.1.1) (nrm m : Int)) 176 0 ((s.1.1 : Int) + 1)) := by
  obtain ⟨M', hM⟩ : ∃ M', M' = ax_up (ax_up M 177 (8 * 0 + s.1.1) (nrm m : Int)) 176 0 ((s.1.1 : Int) + 1) := ⟨_, rfl⟩
  rw [← hM]
  have e : ∀ a k, a ≠ 176 → a ≠ 177 → M' a k = M a k := fun a k h1 h2 => by rw [hM, ax_up2n h1, ax_up2n h2]
  have e6 : ∀ k, k ≠ 0 → M' 176 k = M 176 k := fun k hk => by rw [hM, ax_up_of hk, ax_up2n (by decide)]
  have e7 : ∀ k, M' 177 k = if k = 8 * 0 + s.1.1 then (nrm m : Int) else M 177 k := fun k => by
    rw [hM, ax_up2n (by decide)]
    by_cases z : k = 8 * 0 + s.1.1
    · rw [if_pos z, z, ax_up_at]
    · rw [if_neg z, ax_up_of z]
  obtain ⟨⟨a1, a2, a3, a4⟩, ⟨b1, b2, b3⟩, t, p, c, d, f, r1, r2⟩ := h
  refine ⟨⟨by rw [hM, ax_up_at]; rfl, (e6 1 (by decide)).trans a2, (e6 2 (by decide)).trans a3, (e6 3 (by decide)).trans a4⟩, ⟨?_, fun k hk => by rw [e7, if_neg (by omega)]; exact b2 k hk, fun k hk => by rw [e7, if_neg (by omega)]; exact b3 k hk⟩, fun k hk => by rw [e 178 _ (by decide) (by decide), e 178 _ (by decide) (by decide), e 178 _ (by decide) (by decide)]; exact t k hk, fun k hk => by rw [e 179 _ (by decide) (by decide)]; exact p k hk, fun k hk => by rw [e 180 _ (by decide) (by decide), e 180 _ (by decide) (by decide), e 180 _ (by decide) (by decide), e 180 _ (by decide) (by decide)]; exact c k hk, by rw [e 181 _ (by decide) (by decide), e 181 _ (by decide) (by decide), e 181 _ (by decide) (by decide)]; exact d, (e 142 51 (by decide) (by decide)).trans f, r1.of (Nat.le_refl _) (e 182 _ (by decide) (by decide)) (e 183 _ (by decide) (by decide)) (fun i _ => e 184 i (by decide) (by decide)), r2.of (Nat.le_refl _) (e 182 _ (by decide) (by decide)) (e 183 _ (by decide) (by decide)) (fun i _ => e 184 i (by decide) (by decide))⟩
  refine vadd_all (P := fun k x => M' 177 (8 * 0 + k) = (nrm x : Int)) (fun k hk => ?_) ?_
  · rw [e7, if_neg (by omega)]; exact b1 k hk
  · rw [e7, if_pos rfl]
theorem RHo.sect (h : RHo s M) (hlt : s.2.2.1.1 < 5) (h8 : s.1.1 ≤ 8) {m : Nm} {x : Int} : RHo (s.1, s.2.1, vadd s.2.2.1 (m, x), s.2.2.2) (ax_up (ax_up (ax_up M 177 (8 * 1 + s.2.2.1.1) (nrm m : Int)) 176 1 ((s.2.2.1.1 : Int) + 1)) 179 s.2.2.1.1 x) := by
  obtain ⟨M', hM⟩ : ∃ M', M' = ax_up (ax_up (ax_up M 177 (8 * 1 + s.2.2.1.1) (nrm m : Int)) 176 1 ((s.2.2.1.1 : Int) + 1)) 179 s.2.2.1.1 x := ⟨_, rfl⟩
  rw [← hM]
  have e : ∀ a k, a ≠ 176 → a ≠ 177 → a ≠ 179 → M' a k = M a k := fun a k h1 h2 h3 => by rw [hM, ax_up2n h3, ax_up2n h1, ax_up2n h2]
  have e6 : ∀ k, k ≠ 1 → M' 176 k = M 176 k := fun k hk => by rw [hM, ax_up2n (by decide), ax_up_of hk, ax_up2n (by decide)]
  have e7 : ∀ k, M' 177 k = if k = 8 * 1 + s.2.2.1.1 then (nrm m : Int) else M 177 k := fun k => by
    rw [hM, ax_up2n (by decide), ax_up2n (by decide)]
    by_cases z : k = 8 * 1 + s.2.2.1.1
    · rw [if_pos z, z, ax_up_at]
    · rw [if_neg z, ax_up_of z]
  have e9 : ∀ k, M' 179 k = if k = s.2.2.1.1 then x else M 179 k := fun k => by
    rw [hM]
    by_cases z : k = s.2.2.1.1
    · rw [if_pos z, z, ax_up_at]
    · rw [if_neg z, ax_up_of z, ax_up2n (by decide), ax_up2n (by decide)]
  obtain ⟨⟨a1, a2, a3, a4⟩, ⟨b1, b2, b3⟩, t, p, c, d, f, r1, r2⟩ := h
  refine ⟨⟨(e6 0 (by decide)).trans a1, by rw [hM, ax_up2n (by decide), ax_up_at]; rfl, (e6 2 (by decide)).trans a3, (e6 3 (by decide)).trans a4⟩, ⟨fun k (hk : k < s.1.1) => by rw [e7, if_neg (by omega)]; exact b1 k hk, ?_, fun k hk => by rw [e7, if_neg (by omega)]; exact b3 k hk⟩, fun k hk => by rw [e 178 _ (by decide) (by decide) (by decide), e 178 _ (by decide) (by decide) (by decide), e 178 _ (by decide) (by decide) (by decide)]; exact t k hk, ?_, fun k hk => by rw [e 180 _ (by decide) (by decide) (by decide), e 180 _ (by decide) (by decide) (by decide), e 180 _ (by decide) (by decide) (by decide), e 180 _ (by decide) (by decide) (by decide)]; exact c k hk, by rw [e 181 _ (by decide) (by decide) (by decide), e 181 _ (by decide) (by decide) (by decide), e 181 _ (by decide) (by decide) (by decide)]; exact d, (e 142 51 (by decide) (by decide) (by decide)).trans f, r1.of (Nat.le_refl _) (e 182 _ (by decide) (by decide) (by decide)) (e 183 _ (by decide) (by decide) (by decide)) (fun i _ => e 184 i (by decide) (by decide) (by decide)), r2.of (Nat.le_refl _) (e 182 _ (by decide) (by decide) (by decide)) (e 183 _ (by decide) (by decide) (by decide)) (fun i _ => e 184 i (by decide) (by decide) (by decide))⟩
  · refine vadd_all (P := fun k (y : Nm × Int) => M' 177 (8 * 1 + k) = (nrm y.1 : Int)) (fun k hk => ?_) ?_
    · rw [e7, if_neg (by omega)]; exact b2 k hk
    · rw [e7, if_pos rfl]
  · refine vadd_all (P := fun k (y : Nm × Int) => M' 179 k = y.2) (fun k hk => ?_) ?_
    · rw [e9, if_neg (by omega)]; exact p k hk
    · rw [e9, if_pos rfl]
theorem RHo.stair (h : RHo s M) {a b : Nat} {x : Int} (e : ∀ c k, 176 < c → c ≤ 184 → c ≠ 178 → M1 c k = M c k) (e51 : M1 142 51 = M 142 51) (e6 : ∀ k, k ≠ 3 → M1 176 k = M 176 k) (e63 : M1 176 3 = (s.2.1.1 : Int) + 1) (e8 : ∀ k, k < 3 * s.2.1.1 → M1 178 k = M 178 k) (f0 : M1 178 (3 * s.2.1.1) = (a : Int)) (f1 : M1 178 (3 * s.2.1.1 + 1) = (b : Int)) (f2 : M1 178 (3 * s.2.1.1 + 2) = x) : RHo (s.1, vadd s.2.1 (a, b, x), s.2.2) M1 := by
  have e' : ∀ c k, 176 < c ∧ c ≤ 184 ∧ c ≠ 178 → M1 c k = M c k := fun c k z => e c k z.1 z.2.1 z.2.2
  obtain ⟨⟨a1, a2, a3, a4⟩, ⟨b1, b2, b3⟩, t, p, c, d, f, r1, r2⟩ := h
  refine ⟨⟨(e6 0 (by decide)).trans a1, (e6 1 (by decide)).trans a2, (e6 2 (by decide)).trans a3, e63⟩, ⟨fun k hk => by rw [e' 177 _ (by decide)]; exact b1 k hk, fun k hk => by rw [e' 177 _ (by decide)]; exact b2 k hk, fun k hk => by rw [e' 177 _ (by decide)]; exact b3 k hk⟩, ?_, fun k hk => by rw [e' 179 _ (by decide)]; exact p k hk, fun k hk => by rw [e' 180 _ (by decide), e' 180 _ (by decide), e' 180 _ (by decide), e' 180 _ (by decide)]; exact c k hk, by rw [e' 181 _ (by decide), e' 181 _ (by decide), e' 181 _ (by decide)]; exact d, e51.trans f, r1.of (Nat.le_refl _) (e' 182 _ (by decide)) (e' 183 _ (by decide)) (fun i _ => e' 184 i (by decide)), r2.of (Nat.le_refl _) (e' 182 _ (by decide)) (e' 183 _ (by decide)) (fun i _ => e' 184 i (by decide))⟩
  refine vadd_all (P := fun k (y : Nat × Nat × Int) => M1 178 (3 * k) = (y.1 : Int) ∧ M1 178 (3 * k + 1) = (y.2.1 : Int) ∧ M1 178 (3 * k + 2) = y.2.2) (fun k hk => ?_) ⟨f0, f1, f2⟩
  rw [e8 _ (by omega), e8 _ (by omega), e8 _ (by omega)]; exact t k hk
theorem RHo.clerk (h : RHo s M) (hlt : s.2.2.2.1.1 < 8) {m : Nm} {a b : Nat} {x y : Int} (e : ∀ c k, 177 < c → c ≤ 184 → c ≠ 180 → M1 c k = M c k) (e51 : M1 142 51 = M 142 51) (e6 : ∀ k, k ≠ 2 → M1 176 k = M 176 k) (e62 : M1 176 2 = (s.2.2.2.1.1 : Int) + 1) (e7 : ∀ k, M1 177 k = if k = 8 * 2 + s.2.2.2.1.1 then (nrm m : Int) else M 177 k) (e8 : ∀ k, k < 4 * s.2.2.2.1.1 → M1 180 k = M 180 k) (f0 : M1 180 (4 * s.2.2.2.1.1) = (a : Int)) (f1 : M1 180 (4 * s.2.2.2.1.1 + 1) = (b : Int)) (f2 : M1 180 (4 * s.2.2.2.1.1 + 2) = x) (f3 : M1 180 (4 * s.2.2.2.1.1 + 3) = y) (h8 : s.1.1 ≤ 8 ∧ s.2.2.1.1 ≤ 8) : RHo (s.1, s.2.1, s.2.2.1, vadd s.2.2.2.1 (m, a, b, x, y), s.2.2.2.2) M1 := by
  have e' : ∀ c k, 177 < c ∧ c ≤ 184 ∧ c ≠ 180 → M1 c k = M c k := fun c k z => e c k z.1 z.2.1 z.2.2
  obtain ⟨⟨a1, a2, a3, a4⟩, ⟨b1, b2, b3⟩, t, p, c, d, f, r1, r2⟩ := h
  refine ⟨⟨(e6 0 (by decide)).trans a1, (e6 1 (by decide)).trans a2, e62, (e6 3 (by decide)).trans a4⟩, ⟨fun k (hk : k < s.1.1) => by rw [e7, if_neg (by omega)]; exact b1 k hk, fun k (hk : k < s.2.2.1.1) => by rw [e7, if_neg (by omega)]; exact b2 k hk, ?_⟩, fun k hk => by rw [e' 178 _ (by decide), e' 178 _ (by decide), e' 178 _ (by decide)]; exact t k hk, fun k hk => by rw [e' 179 _ (by decide)]; exact p k hk, ?_, by rw [e' 181 _ (by decide), e' 181 _ (by decide), e' 181 _ (by decide)]; exact d, e51.trans f, r1.of (Nat.le_refl _) (e' 182 _ (by decide)) (e' 183 _ (by decide)) (fun i _ => e' 184 i (by decide)), r2.of (Nat.le_refl _) (e' 182 _ (by decide)) (e' 183 _ (by decide)) (fun i _ => e' 184 i (by decide))⟩
  · refine vadd_all (P := fun k (z : Nm × Nat × Nat × Int × Int) => M1 177 (8 * 2 + k) = (nrm z.1 : Int)) (fun k hk => ?_) ?_
    · rw [e7, if_neg (by omega)]; exact b3 k hk
    · rw [e7, if_pos rfl]
  · refine vadd_all (P := fun k (z : Nm × Nat × Nat × Int × Int) => M1 180 (4 * k) = (z.2.1 : Int) ∧ M1 180 (4 * k + 1) = (z.2.2.1 : Int) ∧ M1 180 (4 * k + 2) = z.2.2.2.1 ∧ M1 180 (4 * k + 3) = z.2.2.2.2) (fun k hk => ?_) ⟨f0, f1, f2, f3⟩
    rw [e8 _ (by omega), e8 _ (by omega), e8 _ (by omega), e8 _ (by omega)]; exact c k hk
theorem RHo.st (h : RHo s M) {i : Nat} {v a b c' : Int} (h1 : a = if i = 0 then v else s.2.2.2.2.2.2.1) (h2 : b = if i = 1 then v else s.2.2.2.2.2.2.2.1) (h3 : c' = if i = 2 then v else s.2.2.2.2.2.2.2.2) : RHo (s.1, s.2.1, s.2.2.1, s.2.2.2.1, s.2.2.2.2.1, s.2.2.2.2.2.1, a, b, c') (ax_up M 181 i v) := by
  have e : ∀ c k, c ≠ 181 → ax_up M 181 i v c k = M c k := fun c k z => ax_up2n z
  have ei : ∀ k, ax_up M 181 i v 181 k = if i = k then v else M 181 k := fun k => by
    by_cases z : i = k
    · rw [if_pos z, z, ax_up_at]
    · rw [if_neg z, ax_up_of (fun y => z y.symm)]
  obtain ⟨⟨a1, a2, a3, a4⟩, ⟨b1, b2, b3⟩, t, p, c, d, f, r1, r2⟩ := h
  refine ⟨⟨(e 176 _ (by decide)).trans a1, (e 176 _ (by decide)).trans a2, (e 176 _ (by decide)).trans a3, (e 176 _ (by decide)).trans a4⟩, ⟨fun k hk => by rw [e 177 _ (by decide)]; exact b1 k hk, fun k hk => by rw [e 177 _ (by decide)]; exact b2 k hk, fun k hk => by rw [e 177 _ (by decide)]; exact b3 k hk⟩, fun k hk => by rw [e 178 _ (by decide), e 178 _ (by decide), e 178 _ (by decide)]; exact t k hk, fun k hk => by rw [e 179 _ (by decide)]; exact p k hk, fun k hk => by rw [e 180 _ (by decide), e 180 _ (by decide), e 180 _ (by decide), e 180 _ (by decide)]; exact c k hk, ⟨?_, ?_, ?_⟩, (e 142 51 (by decide)).trans f, r1.of (Nat.le_refl _) (e 182 _ (by decide)) (e 183 _ (by decide)) (fun i _ => e 184 i (by decide)), r2.of (Nat.le_refl _) (e 182 _ (by decide)) (e 183 _ (by decide)) (fun i _ => e 184 i (by decide))⟩
  · rw [ei, d.1]; exact h1.symm
  · rw [ei, d.2.1]; exact h2.symm
  · rw [ei, d.2.2]; exact h3.symm
theorem m174 (hF : Fix M) (hn : n ≤ 1600) (hR : RHo s M) (hWf : WfH l s) (hWd : Wd M) (hq : RT T n q M) (hqn : q.1 ≤ n) {pp : Int} : ax_Ev L X SH 5 174 [(2, 142), (0, pp)] M (R0 (RPo T n (roomF T n s pp q) M)) := by
  show ax_G L X SH 5 174 0 [(2, 142), (0, pp), (3, 0), (3, 0)] [] M _
  have hC := at174
  have h5 := hq.2.2.2.2.1
  have hb0 := hWf.1.1
  refine g3 hC rfl rfl ?_
  refine g0 hC rfl ?_
  refine g0 hC rfl ?_
  refine g3 hC rfl rfl ?_
  refine c1 hC rfl rfl rfl (Nat.le_of_ble_eq_true rfl) (Nat.le_of_ble_eq_true rfl) (mayR k169 rfl) (m169 hF h5 (t := 0) (mo := 8) (by decide) hR.1.1) (Nat.le_of_ble_eq_true rfl) (fun x M1 hr => ?_)
  rcases hr with ⟨z, rfl, rfl⟩ | ⟨z, rfl, rfl⟩
  · refine g12e hC rfl (fun y => absurd y (by decide)) (fun _ => ?_)
    refine ret0 hC rfl ⟨(KX.refl.up rfl (by decide)).up rfl (by decide), Or.inl ⟨5, pp, by decide, BF.up, ?_⟩⟩
    unfold roomF; rw [if_pos z]
  · refine g12e hC rfl (fun _ => ?_) (fun y => absurd rfl y)
    have eF : roomF T n s pp q = newN T n s q (fun m q1 => .inr (q1, (vadd s.1 m, s.2))) := by unfold roomF; rw [if_neg z]
    refine g3 hC rfl rfl ?_
    refine c1 hC rfl rfl rfl (Nat.le_of_ble_eq_true rfl) (Nat.le_of_ble_eq_true rfl) (mayR k171 rfl) (m171 hF hn hR hWf hWd hq hqn) (Nat.le_of_ble_eq_true rfl) (fun x M2 hr => ?_)
    obtain ⟨hS, hr⟩ := hr
    have hk := KX.refl.nm hS
    have hF2 := hk.1.fix wXHO hF
    refine sl2 hC rfl rfl ?_
    refine g3 hC rfl rfl ?_
    rcases hr with ⟨f, p, hf, hb, w⟩ | ⟨rfl, hrt, w⟩
    · refine g19 hC rfl sh142 (flt12 rfl) ft12_5 hb.1 ?_
      refine g12n hC rfl (fun _ => ?_) (fun y => absurd hf y)
      exact ret0 hC rfl ⟨hk, Or.inl ⟨f, p, hf, hb, eF.trans (w _)⟩⟩
    · refine g19 hC rfl sh142 (flt12 rfl) ft12_5 hrt.2.2.2.2.1 ?_
      refine g12n hC rfl (fun y => absurd rfl y) (fun _ => ?_)
      refine g3 hC rfl rfl ?_
      refine g0 hC rfl ?_
      refine g3 hC rfl rfl ?_
      refine c1 hC rfl rfl rfl (Nat.le_of_ble_eq_true rfl) (Nat.le_of_ble_eq_true rfl) (mayR k173 rfl) (m173 hF2 (t := 0) (n := s.1.1) (by decide) (hR.nm hS).1.1 (by omega)) (Nat.le_of_ble_eq_true rfl) (fun x M3 hr => ?_)
      obtain ⟨rfl, rfl⟩ := hr
      refine g18 hC rfl (by decide) ?_
      refine ret0 hC rfl ⟨(hk.up rfl (by have : hlf 177 = 24 := rfl; omega)).up rfl (by decide), Or.inr ⟨_, _, eF.trans (w _), ?_, (hR.nm hS).room (by omega)⟩⟩
      exact hrt.cl (fun a k z1 z2 => by rw [ax_up2n (by omega), ax_up2n (by omega)])
end RTD
