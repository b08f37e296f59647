/-! runs of any length -/
theorem ax_rlen {L : Nat} {X : Nat → Int} : ∀ (n d j i : Nat) (ll st : List ax_V) (sh : List ax_H) (M : ax_M) (r : List ax_V) (sh' : List ax_H) (M' : ax_M), ax_run L X n d j i ll st sh M = some (r, sh', M') → r.length ≤ 1 := by
  intro n
  induction n with
  | zero => intro d j i ll st sh M r sh' M' h; cases h
  | succ n ih =>
    intro d j i ll st sh M r sh' M' h
    unfold ax_run at h
    cases ho : ax_at j i with
    | none => rw [ho] at h; cases h
    | some o =>
      rw [ho] at h
      dsimp only at h
      by_cases h28 : o.1 = 28
      · rw [if_pos h28] at h
        cases hr : ax_ret o.2.1 st with
        | none => rw [hr] at h; cases h
        | some r0 =>
          rw [hr] at h
          cases h
          exact (ax_ret_r hr).2.2
      · rw [if_neg h28] at h
        by_cases h27 : o.1 = 27
        · rw [if_pos h27] at h
          cases d with
          | zero => cases h
          | succ d =>
            dsimp only at h
            split at h
            · cases h1 : ax_run L X n d o.2.1 0 (ax_loc (st.take o.2.2.1).reverse (ax_ml o.2.1)) [] sh M with
              | none => rw [h1] at h; cases h
              | some q =>
                obtain ⟨r1, sh1, M1⟩ := q
                rw [h1] at h
                exact ih _ _ _ _ _ _ _ _ _ _ h
            · cases h
        · rw [if_neg h27] at h
          cases h1 : ax_step L X o i ll st sh M with
          | none => rw [h1] at h; cases h
          | some S =>
            obtain ⟨i', ll', st', sh1, M1⟩ := S
            rw [h1] at h
            exact ih _ _ _ _ _ _ _ _ _ _ h
section AXT
variable {D : va_G} {Y : Nat → ClassId} {cad : Int → Value} {base L : Nat} {X : Nat → Int} {l : Launch}
theorem ax_sim (K : ax_OK) (hcad : ∀ x, cad x = .null ∨ ∃ q, cad x = .ref q) (hX : ∀ k, ax_i (X k)) (hL : L ≤ 3072) : ∀ n, ax_Sim D Y cad base L X l n := by
  have hok := K.2.2.1
  intro n
  induction n with
  | zero =>
    intro d j i ll st sh M r sh' M' h
    cases h
  | succ n ih =>
    intro d j i ll st sh M r sh' M' h p e R s m args below meth c H locs cells slots Q ls ad hj hx hb hml hown hts hin hKs hP hD hS hm hl hs hlv hfr hlo hrc hrs k
    unfold ax_run at h
    cases ho : ax_at j i with
    | none => rw [ho] at h; cases h
    | some o =>
      rw [ho] at h
      dsimp only at h
      by_cases h28 : o.1 = 28
      · rw [if_pos h28] at h
        cases hr : ax_ret o.2.1 st with
        | none => rw [hr] at h; cases h
        | some r0 =>
          rw [hr] at h
          cases h
          obtain ⟨e1, e2, -⟩ := ax_ret_r hr
          subst e1
          obtain ⟨hd, hsm, -, -⟩ := ax_use (hok j hj) ho (by rw [h28]; decide)
          obtain ⟨a1, f, g, b⟩ := o
          have h28 : a1 = 28 := h28
          subst h28
          have hf : f = ax_rk j := of_decide_eq_true hsm
          subst hf
          have k0 := k H locs ls ad (ax_pc j i) (fun _ _ => rfl) hP hD hS hd e2
          rw [Nat.sub_self, Nat.sub_self, Nat.add_zero, Nat.add_zero] at k0
          exact k0
      · rw [if_neg h28] at h
        by_cases h27 : o.1 = 27
        · rw [if_pos h27] at h
          cases d with
          | zero => cases h
          | succ d =>
            dsimp only at h
            obtain ⟨hd, hsm, hnx, hlk⟩ := ax_use (hok j hj) ho (by rw [h27]; decide)
            obtain ⟨a1, f, g, b⟩ := o
            have h27 : a1 = 27 := h27
            subst h27
            have hsm : f < 315 ∧ g = ax_np f + (if ax_kd f = 0 then 0 else 1) := of_decide_eq_true hsm
            have hnx := hnx rfl
            have hlen : (ax_ins (ax_pcs.getD j []) i (27, f, g, b)).2 = 3 := by
              show (match ax_kd f with
                | 0 => ((.invokestatic b.toNat : Instr), 3)
                | 1 => (.invokevirtual b.toNat, 3)
                | _ => (.invokespecial b.toNat, 3)).2 = 3
              split <;> rfl
            rw [hlen] at hnx
            split at h
            · rename_i hc
              dsimp only at hc
              cases h1 : ax_run L X n d f 0 (ax_loc (st.take g).reverse (ax_ml f)) [] sh M with
              | none => rw [h1] at h; cases h
              | some q =>
                obtain ⟨r1, sh1, M1⟩ := q
                rw [h1] at h
                dsimp only at h
                obtain ⟨⟨t1, e1⟩, hm1, hr1⟩ := ax_wrun hX hL hok n d f 0 _ [] sh M r1 sh1 M1 (by omega) hm (ax_wloc (ax_wtake hs)) ax_ws_n h1
                have hle : sh.length ≤ sh1.length := by rw [e1]; simp
                have hsl : ax_sl sh ≤ ax_sl sh1 := by rw [e1, ax_sl_app]; omega
                have hs2 : ax_ws sh1.length (r1 ++ st.drop g) := ax_wapp hr1 (ax_wdrop (ax_ws_le hs hle))
                obtain ⟨⟨t2, e2⟩, hm2, -⟩ := ax_wrun hX hL hok n (d + 1) j (i + 1) ll (r1 ++ st.drop g) sh1 M1 r sh' M' hj hm1 (ax_ws_le hl hle) hs2 h
                have hle2 : sh1.length ≤ sh'.length := by rw [e2]; simp
                have hsl2 : ax_sl sh1 ≤ ax_sl sh' := by rw [e2, ax_sl_app]; omega
                have hl1 : r1.length ≤ 1 := ax_rlen n d f 0 _ [] sh M r1 sh1 M1 h1
                refine ax_scall K hcad ih hx hb hml hown hts hKs hP hD hS hm hs hlv.1 hsm.1 hsm.2 hd (hlk _ rfl) hc.1 hc.2.1 hc.2.2 h1 hl1 (by omega) hlo (by omega) (by omega) (fun ad' H1 locs1 ha p1 p2 p3 => ?_)
                have key := ih (d + 1) j (i + 1) ll (r1 ++ st.drop g) sh1 M1 r sh' M' h p e R s m args below meth c H1 locs1 (cells + (sh1.length - sh.length)) (slots + (ax_sl sh1 - ax_sl sh)) Q ls ad' hj hx hb hml hown hts hin hKs p1 p2 p3 hm1 (ax_ws_le hl hle) hs2 (ax_lv_ad hlv hl ha) hfr hlo (by omega) (by omega) (fun H' locs' ls' ad'' pc' ha2 q1 q2 q3 q4 q5 => ?_)
                · rw [hnx, List.map_append, ax_map_ad ha (ax_wdrop hs)] at key
                  exact key
                · rw [show cells + (sh1.length - sh.length) + (sh'.length - sh1.length) = cells + (sh'.length - sh.length) by omega, show slots + (ax_sl sh1 - ax_sl sh) + (ax_sl sh' - ax_sl sh1) = slots + (ax_sl sh' - ax_sl sh) by omega]
                  exact k H' locs' ls' ad'' pc' (fun a haa => (ha2 a (by omega)).trans (ha a haa)) q1 q2 q3 q4 q5
            · cases h
        · rw [if_neg h27] at h
          cases h1 : ax_step L X o i ll st sh M with
          | none => rw [h1] at h; cases h
          | some S =>
            obtain ⟨i', ll', st', sh1, M1⟩ := S
            rw [h1] at h
            dsimp only at h
            have h9 : o.1 ≠ 99 := fun q => by
              obtain ⟨a1, f, g, b⟩ := o
              have q : a1 = 99 := q
              subst q
              cases h1
            obtain ⟨⟨t1, e1⟩, hm1, hl1, hs1⟩ := ax_wstep hX hL (ax_ok_sml (hok j hj) ho h9) hm hl hs h1
            have e1 : sh1 = sh ++ t1 := e1
            have hle : sh.length ≤ sh1.length := by rw [e1]; simp
            have hsl : ax_sl sh ≤ ax_sl sh1 := by rw [e1, ax_sl_app]; omega
            obtain ⟨⟨t2, e2⟩, hm2, -⟩ := ax_wrun hX hL hok n d j i' ll' st' sh1 M1 r sh' M' hj hm1 hl1 hs1 h
            have hle2 : sh1.length ≤ sh'.length := by rw [e2]; simp
            have hsl2 : ax_sl sh1 ≤ ax_sl sh' := by rw [e2, ax_sl_app]; omega
            refine ax_sstep K hcad hx hb hml hown hts hin hKs hX hL hj ho hP hD hS hm hl hs hlv h1 (by omega) (by omega) (by omega) (by omega) (fun H1 locs1 ls1 ad1 ha p1 p2 p3 p4 => ?_)
            refine ih d j i' ll' st' sh1 M1 r sh' M' h p e R s m args below meth c H1 locs1 (cells + (sh1.length - sh.length)) (slots + (ax_sl sh1 - ax_sl sh)) Q ls1 ad1 hj hx hb hml hown hts hin hKs p1 p2 p3 hm1 hl1 hs1 p4 hfr hlo (by omega) (by omega) (fun H' locs' ls' ad'' pc' ha2 q1 q2 q3 q4 q5 => ?_)
            rw [show cells + (sh1.length - sh.length) + (sh'.length - sh1.length) = cells + (sh'.length - sh.length) by omega, show slots + (ax_sl sh1 - ax_sl sh) + (ax_sl sh' - ax_sl sh1) = slots + (ax_sl sh' - ax_sl sh) by omega]
            exact k H' locs' ls' ad'' pc' (fun a haa => (ha2 a (by omega)).trans (ha a haa)) q1 q2 q3 q4 q5
end AXT
