def XAL : ax_W := ([(176, 186), (228, 230)], [(142, 1), (142, 2), (142, 3), (142, 4), (142, 5), (142, 6), (142, 7), (142, 8), (142, 41), (142, 51), (142, 52), (142, 53), (142, 76), (142, 82), (142, 110), (142, 112), (142, 113), (142, 114)])
section OPS
variable {L : Nat} {X : Nat → Int} {M M1 M2 : ax_M} {h n N : Nat} {s : HS} {T : Nat → Int}
theorem op2_s (hh : h = 9 ∨ h = 27) (hN6 : N ≤ 1600) (hF : Fix M) (hG : GG n (36 - h) M) {x y : Int} (h1 : HSt h T N M x M1) (h2 : RSd T N M1 y M2) : y = x ∧ Rel (n + 1) M2 := by
  obtain ⟨c, s, eF, hx, hS1, hC1, hcf, e11, ⟨e03, e04⟩, ⟨q0, q1, q2, q3⟩, e49, e122⟩ := h1
  obtain ⟨c', s', B, eF', hy, ⟨hB, -⟩, b1, hRB, hsd⟩ := h2
  rw [eF] at eF'
  injection eF' with e
  injection e with e1' e2'
  subst e1'
  subst e2'
  obtain ⟨hwf, -⟩ := hou_ok (T := T) (n := N) 80 0 (qz T N) hs0 (rn_le (Nat.zero_le _)) (WfH.z.mono (Nat.zero_le _)) eF
  have hcd : cdl s ≤ 1600 := Nat.le_trans hwf.2.2.2.2.2.1.2.2 hN6
  obtain ⟨C, hCd⟩ : ∃ C, C = ax_up (ax_up B 142 7 0) 142 8 (-1) := ⟨_, rfl⟩
  rw [← hCd] at hsd
  have hsC : Sb ([], [(142, 7), (142, 8)]) B C := by rw [hCd]; exact (Sb.refl.up rfl).up rfl
  have hRC := hRB.sb hsC (rokB (by decide +kernel)) rfl
  obtain ⟨d0, d6, d7, d8, d180, d181, d182, d184, d185, d82, d76⟩ := hsd
  have h12 : Sb XAL M1 M2 := ((Sb.refl.then hB rfl).then hsC rfl).then d0 rfl
  have hwh2 : ∀ g, g = 9 ∨ g = 27 → hok XAL g := fun g hg => hokB (by decide +kernel) hg
  have hC2 : CHo h s M2 := hC1.sb h12 (hwh2 h hh)
  have hws : wok (WHst h) = true := by rcases hh with rfl | rfl <;> decide +kernel
  have hF2 : Fix M2 := h12.fix (by decide +kernel) (hS1.fix hws hF)
  obtain ⟨⟨⟨⟨ca, cA⟩, ⟨cb, cB⟩, ⟨cc, cC⟩, cd, cD⟩, nm1, nm2, nm3⟩, ct, cp7, ck, ⟨pt, pd⟩, c17, c18, c19⟩ := id hC2
  have rR : nR M2 h = s.1.1 := by unfold nR; rw [ca]; rfl
  have rS : nS M2 h = s.2.1.1 := by unfold nS; rw [cb]; rfl
  have rQ : nQ M2 h = s.2.2.1.1 := by unfold nQ; rw [cc]; rfl
  have rC : nC M2 h = s.2.2.2.1.1 := by unfold nC; rw [cd]; rfl
  have rsa : ∀ k, k < s.2.1.1 → sa M2 h k = (s.2.1.2 k).1 := fun k hk => by unfold sa; rw [(ct k hk).1]; rfl
  have rsb : ∀ k, k < s.2.1.1 → sb M2 h k = (s.2.1.2 k).2.1 := fun k hk => by unfold sb; rw [(ct k hk).2.1]; rfl
  have rch' : ∀ k, k < s.2.2.2.1.1 → ch M2 h k = (s.2.2.2.1.2 k).2.1 := fun k hk => by unfold ch; rw [(ck k hk).1]; rfl
  have rcq : ∀ k, k < s.2.2.2.1.1 → ckq M2 h k = (s.2.2.2.1.2 k).2.2.1 := fun k hk => by unfold ckq; rw [(ck k hk).2.1]; rfl
  have rcp : ∀ k, k < s.2.2.2.1.1 → (cp M2 h k : Int) = (s.2.2.2.1.2 k).2.2.2.1 := fun k hk => by
    unfold cp; rw [(ck k hk).2.2.1]
    have := (hwf.2.2.2.2.1 k hk).2.2.2.1
    omega
  obtain ⟨w0, wr, ⟨ws1, ws2⟩, wq', wc, ⟨wt, wd, wl⟩, w17, w18, w19⟩ := id hwf
  have hHW : HW M2 h := by
    refine ⟨⟨⟨by rw [rR]; exact ca, by rw [rR]; exact cA⟩, ⟨by rw [rS]; exact cb, by rw [rS]; exact cB⟩, ⟨by rw [rQ]; exact cc, by rw [rQ]; exact cC⟩, by rw [rC]; exact cd, by rw [rC]; exact cD⟩, ?_, ?_, ?_, by rw [c17]; exact w17, by rw [c18]; exact w18, by rw [c19]; exact w19⟩
    · intro k hk; rw [rS] at hk
      rw [rsa k hk, rsb k hk, rR]
      obtain ⟨z1, z2, z3, z4⟩ := ws1 k hk
      obtain ⟨t1, t2, t3⟩ := ct k hk
      exact ⟨⟨t1, z1⟩, ⟨t2, z2⟩, z3, by rw [t3]; exact z4⟩
    · intro k k' hk hk' hne; rw [rS] at hk hk'
      rw [rsa k hk, rsb k hk, rsa k' hk', rsb k' hk']
      exact ws2 k k' hk hk' hne
    · intro k hk; rw [rC] at hk
      have hcp := rcp k hk
      rw [rch' k hk, rcq k hk, rR, rQ]
      obtain ⟨z1, z2, z3, z4, z5⟩ := wc k hk
      obtain ⟨t1, t2, t3, t4⟩ := ck k hk
      exact ⟨⟨t1, z2⟩, ⟨t2, z3⟩, ⟨by rw [t3, hcp], by omega, by omega⟩, by rw [t4]; exact z5⟩
  have st : ∀ a k, 45 ≤ a → a ≤ 48 → M2 a k = M1 a k := fun a k z1 z2 => h12 a k (wbo 45 49 rfl z1 (by omega))
  have t46 : ∀ q, q < 5 → M2 46 q = if q < s.2.2.1.1 then (s.2.2.1.2 q).2 else 0 := fun q hq => (st 46 q (by decide) (by decide)).trans (q1 q hq)
  have hSW : SW M2 := by
    refine ⟨by rw [st 45 0 (by decide) (by decide), q0]; decide, fun q hq => ?_, fun k hk => Or.inl (by rw [st 47 k (by decide) (by decide)]; exact q2 k hk), fun k hk => by rw [st 48 k (by decide) (by decide), q3 k hk]; decide⟩
    rw [t46 q hq]
    by_cases z : q < s.2.2.1.1
    · rw [if_pos z]; exact (wq' q z).2
    · rw [if_neg z]; decide
  have e182 : ∀ k, k < 2 → M2 182 (2 + k) = C 182 k := fun k hk => (d182 k hk).1
  have e183 : ∀ k, k < 2 → M2 183 (2 + k) = C 183 k := fun k hk => (d182 k hk).2
  have hPW : PW M2 h := by
    refine ⟨?_, ?_⟩
    · rcases hRC.2.2.2.2.2.2.2.1 with ⟨z1, z2⟩ | ⟨cc', f, z1, z2, z3, z4, z5⟩
      · refine Or.inl ⟨(e182 0 (by decide)).trans z2, ?_⟩
        have := pt.1; rw [z1] at this; exact this
      · have y2 : M2 182 2 = (f : Int) := (e182 0 (by decide)).trans z2
        have y3 : M2 183 2 = ((f + cc'.length : Nat) : Int) := (e183 0 (by decide)).trans z3
        have hf : tf M2 = f := by unfold tf; rw [y2]; rfl
        have hl : tn M2 = cc'.length := by unfold tn; rw [y2, y3]; omega
        rw [z1] at pt
        have hcc : ∀ k, k < cc'.length → tc M2 k = cc'.getD k 0 := fun k hk => by
          unfold tc; rw [hf, show 1600 + f + k = 1600 + (f + k) by omega, d184 (f + k) (by omega)]; exact z5 k hk
        refine Or.inr ⟨by rw [hf]; exact y2, by rw [hf, hl]; exact y3, by rw [hf, hl]; omega, ?_, ?_⟩
        · rw [hl]
          refine ⟨pt.1, by omega, fun k hk => ?_, fun k hk => ?_⟩
          · rw [hcc k hk]; exact pt.2 k hk
          · rw [hcc k hk]
            refine (wt cc' z1).2 _ ?_
            rw [List.getD_eq_getElem?_getD, List.getElem?_eq_getElem hk]
            exact List.getElem_mem hk
        · rw [hl]
          exact (typ_of (wt cc' z1).1 (by decide)).cg (fun k hk => (hcc k hk).symm)
    · rcases hRC.2.2.2.2.2.2.2.2 with ⟨z1, z2⟩ | ⟨cc', f, z1, z2, z3, z4, z5⟩
      · rw [z1] at pd
        exact Or.inl ⟨(e182 1 (by decide)).trans z2, pd.1, pd.2 0 (by decide)⟩
      · have y2 : M2 182 3 = (f : Int) := (e182 1 (by decide)).trans z2
        have y3 : M2 183 3 = ((f + cc'.length : Nat) : Int) := (e183 1 (by decide)).trans z3
        have hf : df M2 = f := by unfold df; rw [y2]; rfl
        have hl : dn M2 = cc'.length := by unfold dn; rw [y2, y3]; omega
        rw [z1] at pd
        have hcc : ∀ k, k < cc'.length → dc M2 k = cc'.getD k 0 := fun k hk => by
          unfold dc; rw [hf, show 1600 + f + k = 1600 + (f + k) by omega, d184 (f + k) (by omega)]; exact z5 k hk
        refine Or.inr ⟨by rw [hf]; exact y2, by rw [hf, hl]; exact y3, by rw [hf, hl]; omega, ?_, ?_⟩
        · rw [hl]
          refine ⟨pd.1, by omega, fun k hk => ?_, fun k hk => ?_⟩
          · rw [hcc k hk]; exact pd.2 k hk
          · rw [hcc k hk]
            refine (wd cc' z1).2 _ ?_
            rw [List.getD_eq_getElem?_getD, List.getElem?_eq_getElem hk]
            exact List.getElem_mem hk
        · rw [hl]
          exact (typ_of (wd cc' z1).1 (by decide)).cg (fun k hk => (hcc k hk).symm)
  obtain ⟨⟨ra, rb, rc, rd⟩, ⟨rn1, rn2, rn3⟩, rt, rp, rk, ⟨r17, r18, r19⟩, -⟩ := id hRC
  have hRV : RV M2 h M2 := by
    refine ⟨⟨?_, ?_, ?_, ?_⟩, ?_, ?_, ⟨?_, ?_, ?_⟩, ⟨?_, fun q hq => ?_, fun k hk => ?_, fun a b hab hb => ?_⟩, ⟨rfl, rfl, rfl, rfl, fun _ _ => rfl⟩⟩
    · exact (d6 0 (by decide)).trans (ra.trans ca.symm)
    · exact (d6 3 (by decide)).trans (rd.trans cb.symm)
    · exact (d6 1 (by decide)).trans (rb.trans cc.symm)
    · exact (d6 2 (by decide)).trans (rc.trans cd.symm)
    · intro k hk; rw [rS] at hk
      obtain ⟨t1, t2, t3⟩ := ct k hk
      obtain ⟨u1, u2, u3⟩ := rt k hk
      refine ⟨(d8 (3 * k) (by omega)).trans (u1.trans t1.symm), ?_, ?_⟩
      · rw [show 31 + 3 * k = 30 + (3 * k + 1) by omega]; exact (d8 (3 * k + 1) (by omega)).trans (u2.trans t2.symm)
      · rw [show 32 + 3 * k = 30 + (3 * k + 2) by omega]; exact (d8 (3 * k + 2) (by omega)).trans (u3.trans t3.symm)
    · intro k hk; rw [rC] at hk
      obtain ⟨t1, t2, t3, t4⟩ := ck k hk
      obtain ⟨u1, u2, u3, u4⟩ := rk k hk
      refine ⟨(d180 (4 * k) (by omega)).trans (u1.trans t1.symm), ?_, ?_, ?_⟩
      · rw [show 33 + 4 * k = 32 + (4 * k + 1) by omega]; exact (d180 (4 * k + 1) (by omega)).trans (u2.trans t2.symm)
      · rw [show 34 + 4 * k = 32 + (4 * k + 2) by omega]; exact (d180 (4 * k + 2) (by omega)).trans (u3.trans t3.symm)
      · rw [show 35 + 4 * k = 32 + (4 * k + 3) by omega]; exact (d180 (4 * k + 3) (by omega)).trans (u4.trans t4.symm)
    · exact (d181 0 (by decide)).trans (r17.trans c17.symm)
    · exact (d181 1 (by decide)).trans (r18.trans c18.symm)
    · exact (d181 2 (by decide)).trans (r19.trans c19.symm)
    · rw [d185 0 (by decide), if_neg (by omega), st 45 0 (by decide) (by decide), q0]
    · rw [d185 (1 + q) (by omega), t46 q hq]
      by_cases z : q < s.2.2.1.1
      · rw [if_pos (by omega), if_pos z, show 1 + q - 1 = q by omega]; exact rp q z
      · rw [if_neg (by omega), if_neg z]
    · rw [d185 (6 + k) (by omega), if_neg (by omega), st 47 k (by decide) (by decide), q2 k hk]
    · have hpa := pA_lt hab hb
      have hpo := pO_lt hab hb
      rw [d185 (16 + pA a b) (by omega), if_neg (by omega), st 48 _ (by decide) (by decide), q3 _ hpo]
  have c142 : ∀ k, k ≠ 76 → k ≠ 82 → M2 142 k = C 142 k := fun k z1 z2 => d0 142 k (by
    unfold wb XST
    simp only [List.any_cons, List.any_nil, Bool.or_false, Bool.or_eq_false_iff, Bool.and_eq_false_iff]
    refine ⟨⟨Or.inl rfl, Or.inl rfl⟩, Or.inr ?_, Or.inr ?_⟩
    · exact Bool.eq_false_iff.mpr (fun x => z2 (Nat.eq_of_beq_eq_true x).symm)
    · exact Bool.eq_false_iff.mpr (fun x => z1 (Nat.eq_of_beq_eq_true x).symm))
  obtain ⟨a1, a2, a3, a4, a5, a6, a7, a8, a9, a10⟩ := hG
  have m2a : ∀ a k, a < 142 → M2 a k = M1 a k := fun a k z => h12 a k (wbo 0 142 rfl (Nat.zero_le _) z)
  have w1 : ∀ a k, wb (WHst h) a k = false → wb XAL a k = false → M2 a k = M a k := fun a k z1 z2 => (h12 a k z2).trans (hS1 a k z1)
  have m2 : ∀ a k, a < 142 → wb (WHst h) a k = false → M2 a k = M a k := fun a k z1 z2 => (m2a a k z1).trans (hS1 a k z2)
  refine ⟨by rw [hx, hy], h, hh, hF2, hHW, hSW, hPW, hRV, ?_, ?_, ?_, ?_, ?_, ?_⟩
  · have g11 : M2 1 1 = 0 := (m2a 1 1 (by decide)).trans e11
    refine ⟨⟨by rw [g11]; decide, by rw [g11]; decide, ?_⟩, fun i hi => ?_, ?_, ?_⟩
    · rw [g11, c142 1 (by decide) (by decide), hCd, ax_up_of (by decide), ax_up_of (by decide)]; exact b1
    · rw [w1 143 i (by rcases hh with rfl | rfl <;> rfl) rfl, w1 2 i (by rcases hh with rfl | rfl <;> rfl) rfl]; exact a5.2.1 i hi
    · rw [c142 7 (by decide) (by decide), m2a 1 8 (by decide), hcf.1, hCd, ax_up_of (by decide), ax_up_at]
    · rw [c142 8 (by decide) (by decide), m2a 1 9 (by decide), hcf.2, hCd, ax_up_at]
  · refine GN.up (n := n) (fun k hk => ?_) (by omega)
    rw [w1 144 k (by rcases hh with rfl | rfl <;> rfl) rfl, w1 140 k (by rcases hh with rfl | rfl <;> rfl) rfl]; exact a6 k hk
  · refine ⟨fun k hk => ?_, fun k hk => ?_, fun k hk => ?_⟩
    · rw [rR] at hk
      have hnm := wr k hk
      refine ⟨(s.1.2 k).2, (s.1.2 k).1, hnm.1, hnm.2.1, hnm.2.2, nm1 k hk, ?_⟩
      rw [d7 k (by omega), ← Nat.zero_add k]; exact (by rw [Nat.zero_add]; have := rn1 k hk; rw [show 8 * 0 + k = k by omega] at this; exact this)
    · rw [rQ] at hk
      have hnm := (wq' k hk).1
      refine ⟨(s.2.2.1.2 k).1.2, (s.2.2.1.2 k).1.1, hnm.1, hnm.2.1, hnm.2.2, nm2 k hk, ?_⟩
      rw [show 32 + k = 24 + (8 * 1 + k) by omega, d7 (8 * 1 + k) (by omega)]; exact rn2 k hk
    · rw [rC] at hk
      have hnm := (wc k hk).1
      refine ⟨(s.2.2.2.1.2 k).1.2, (s.2.2.2.1.2 k).1.1, hnm.1, hnm.2.1, hnm.2.2, nm3 k hk, ?_⟩
      rw [show 40 + k = 24 + (8 * 2 + k) by omega, d7 (8 * 2 + k) (by omega)]; exact rn3 k hk
  · have e1 : M2 49 1 = M 49 1 := m2 49 1 (by decide) (by rcases hh with rfl | rfl <;> rfl)
    have e2 : M2 49 2 = 0 := (m2a 49 2 (by decide)).trans e49
    have r1 : hR M2 = hR M := by unfold hR; rw [e1]
    have r2 : hN M2 = 0 := by unfold hN; rw [e2]; rfl
    have e83 : M2 142 83 = M 142 83 := w1 142 83 (by rcases hh with rfl | rfl <;> rfl) rfl
    have er : ∀ r, r < 20 → M2 (51 + r) = M (51 + r) := fun r hr => funext fun k => m2 _ k (by omega) (by rcases hh with rfl | rfl <;> exact wbo 51 71 rfl (by omega) (by omega))
    have e203 : ∀ k, M2 203 k = M 203 k := fun k => w1 203 k (by rcases hh with rfl | rfl <;> rfl) rfl
    refine ⟨⟨by rw [e1, r1]; exact a8.1.1, by rw [r1]; exact a8.1.2.1, by rw [e83, r1]; exact a8.1.2.2⟩, ⟨by rw [e2, r2]; rfl, by rw [r2]; decide, by rw [d82, r2]; rfl⟩, fun r hr => ?_, fun j hj => by rw [r2] at hj; exact absurd hj (Nat.not_lt_zero j)⟩
    rw [er r hr, show (fun k => M2 203 (44 * ((r + 1) % 20) + k)) = (fun k => M 203 (44 * ((r + 1) % 20) + k)) from funext fun k => e203 _]
    exact a8.2.2.1 r hr
  · have e0 : M2 122 0 = 0 := (m2a 122 0 (by decide)).trans e122
    have r0 : sN M2 = 0 := by unfold sN; rw [e0]; rfl
    exact ⟨⟨by rw [e0, r0]; rfl, by rw [r0]; decide, by rw [d76, r0]; rfl⟩, fun k hk => by rw [r0] at hk; exact absurd hk (Nat.not_lt_zero k)⟩
  · have e16 : M2 0 16 = M 0 16 := m2 0 16 (by decide) (by rcases hh with rfl | rfl <;> rfl)
    have e14 : M2 0 14 = M 0 14 := m2 0 14 (by decide) (by rcases hh with rfl | rfl <;> rfl)
    refine ⟨⟨(m2a 0 3 (by decide)).trans e03, (m2a 0 4 (by decide)).trans e04⟩, ⟨?_, ?_⟩, ⟨?_, ?_⟩, fun k _ hk => by rw [st 47 k (by decide) (by decide)]; exact q2 k hk, ⟨by rw [e14]; exact a10.2.2.2.2.1.1, by rw [e14]; exact a10.2.2.2.2.1.2.1, ?_⟩, fun k hk hk2 => ?_⟩
    · rw [e16, w1 142 84 (by rcases hh with rfl | rfl <;> rfl) rfl]; exact a10.2.1.1
    · rw [e16]; exact a10.2.1.2
    · rw [w1 142 69 (by rcases hh with rfl | rfl <;> rfl) rfl]; exact a10.2.2.1.1
    · rw [w1 142 70 (by rcases hh with rfl | rfl <;> rfl) rfl]; exact a10.2.2.1.2
    · rw [e14, w1 142 120 (by rcases hh with rfl | rfl <;> rfl) rfl]; exact a10.2.2.2.2.1.2.2
    · rw [e14] at hk2
      rw [w1 231 k (by rcases hh with rfl | rfl <;> rfl) rfl, w1 139 k (by rcases hh with rfl | rfl <;> rfl) rfl]; exact a10.2.2.2.2.2 k hk hk2
theorem op2 (hn : n ≤ 1000) (hR0 : Rel n M) (hWd : Wd M) : OP L X n 0 102 180 [(2, 0)] [(2, 142)] M := by
  obtain ⟨g, hg, hF, hG⟩ := hR0
  obtain ⟨h, hh, rfl⟩ : ∃ h, (h = 9 ∨ h = 27) ∧ g = 36 - h := by
    rcases hg with rfl | rfl
    · exact ⟨27, Or.inr rfl, rfl⟩
    · exact ⟨9, Or.inl rfl, rfl⟩
  have hGT := hG.2.2.2.2.1
  have hGN := hG.2.2.2.2.2.1
  have hGX := hG.2.2.2.2.2.2.2.2.2
  obtain ⟨N, hNn⟩ : ∃ N, N = (M 1 1).toNat := ⟨_, rfl⟩
  have h11 : M 1 1 = (N : Int) := by have := hGT.1.1; omega
  have hN6 : N ≤ 1600 := by have := hGT.1.2.1; omega
  have hg2 : 36 - (36 - h) = h := by omega
  have h04 : M 0 4 = (h : Int) := by have := hGX.1.2; rw [hg2] at this; exact this
  have b140 := hGN 1 (by decide)
  have hsb : ∀ x M1, (HFl h (M 2) N M x M1 ∨ HSt h (M 2) N M x M1) → Fix M1 ∧ Wd M1 ∧ ∀ a k, 142 ≤ a → M1 a k = M a k := by
    intro x M1 hp
    have key : ∀ {W : ax_W}, wok W = true → wdok W = true → (W.1.all (fun e => Nat.ble e.2 142 || Nat.ble 1000000 e.1) && W.2.all (fun e => Nat.ble (e.1 + 1) 142 || Nat.ble 1000000 e.1)) = true → Sb W M M1 → (∀ a k, 1000000 ≤ a → M1 a k = M a k) → Fix M1 ∧ Wd M1 ∧ ∀ a k, 142 ≤ a → M1 a k = M a k := fun w1 w2 w3 hs ho => ⟨hs.fix w1 hF, hWd.sb hs w2, fun a k z => by
      rcases Nat.lt_or_ge a 1000000 with y | y
      · exact hs a k (wbo 142 1000000 w3 z y)
      · exact ho a k y⟩
    have big : ∀ (W : ax_W), (W.1.all (fun e => Nat.ble e.2 1000000) && W.2.all (fun e => Nat.ble (e.1 + 1) 1000000)) = true → ∀ a k, 1000000 ≤ a → wb W a k = false := by
      intro W hW a k ha
      rw [Bool.and_eq_true] at hW
      unfold wb
      rw [Bool.or_eq_false_iff]
      refine ⟨List.any_eq_false.mpr (fun e he => ?_), List.any_eq_false.mpr (fun e he => ?_)⟩
      · have := Nat.le_of_ble_eq_true (List.all_eq_true.mp hW.1 e he)
        intro z
        rw [Bool.and_eq_true] at z
        have := Nat.le_of_ble_eq_true z.2
        omega
      · have := Nat.le_of_ble_eq_true (List.all_eq_true.mp hW.2 e he)
        intro z
        rw [Bool.and_eq_true] at z
        have := Nat.eq_of_beq_eq_true z.1
        omega
    rcases hp with ⟨f, p, A, -, -, hA, -, hM1⟩ | ⟨c, s, -, -, hS, -⟩
    · have hs : Sb ((WHo h).1 ++ [(140, 141)], (WHo h).2 ++ [(1, 1)]) M M1 := by
        rw [hM1]
        exact (((Sb.refl.then hA (by rcases hh with rfl | rfl <;> rfl)).up (by rcases hh with rfl | rfl <;> rfl)).up (by rcases hh with rfl | rfl <;> rfl))
      refine key (by rcases hh with rfl | rfl <;> decide +kernel) (by rcases hh with rfl | rfl <;> decide +kernel) (by rcases hh with rfl | rfl <;> decide +kernel) hs (fun a k z => hs a k (big _ (by rcases hh with rfl | rfl <;> decide +kernel) a k z))
    · refine key (by rcases hh with rfl | rfl <;> decide +kernel) (by rcases hh with rfl | rfl <;> decide +kernel) (by rcases hh with rfl | rfl <;> decide +kernel) hS (fun a k z => hS a k (big _ (by rcases hh with rfl | rfl <;> decide +kernel) a k z))
  refine OP.tw (d := 39) (d' := 11) (P := fun x M1 => HFl h (M 2) N M x M1 ∨ HSt h (M 2) N M x M1) (Q := fun x M1 y M2 => RFl (M 2) N M1 y M2 ∨ RSd (M 2) N M1 y M2) (m102 hF hh hGX.1.1 h04 hN6 h11 (fun i _ => rfl) (by omega)) (fun x M1 hp => ?_) (fun x M1 y M2 hp hq => ?_) (by decide) (by decide)
  · obtain ⟨f1, f2, f3⟩ := hsb x M1 hp
    refine m180 f1 f2 hN6 ?_ (fun i hi => ?_) (fun i hi => (hGT.2.1 i hi).2.1) ?_
    · rw [f3 142 1 (by decide), hGT.1.2.2]; exact h11
    · rw [f3 143 i (by decide)]; exact (hGT.2.1 i hi).1
    · rw [f3 144 1 (by decide)]; omega
  · rcases hp with hp | hp
    · rcases hq with hq | hq
      · exact op2_f hh hF hG hp hq
      · obtain ⟨f, p, A, e1, -⟩ := hp
        obtain ⟨c, s, B, e2, -⟩ := hq
        rw [e1] at e2; cases e2
    · rcases hq with hq | hq
      · obtain ⟨c, s, e1, -⟩ := hp
        obtain ⟨f, p, A, e2, -⟩ := hq
        rw [e1] at e2; cases e2
      · exact op2_s hh hN6 hF hG hp hq
end OPS
