set_option maxHeartbeats 4000000 in
set_option maxRecDepth 100000 in
theorem q_refusal (l : Launch) (D : va_G) (cI cZ : ClassId) (o : Nat) (th : Int32) (im : Nat) (tr : Bool) (rc : Nat) (bg : Nat) (ro : Int32) (oa : Nat) (xa : Nat) (ya : Nat) (rg : Nat) (me : Nat) (sa : Nat) (pa : Nat) (za : Nat) (ca : Nat) (kp : Bool) (ta : Nat) (na : Nat) (fi : Nat → Int32) (fr : Nat → Int32) : MetR l y_MO_refusal w_MO_refusal { frames := 2, cells := 0, slots := 0, locals := 43 } D cI cZ [.ref o] [(o, .inr (5, [.int th, .ref im, .int (bI tr), .ref rc, .ref bg, .int ro, .ref oa, .ref xa, .ref ya, .ref rg, .ref me, .ref sa, .ref pa, .ref za, .ref ca, .int (bI kp), .ref ta, .ref na])), (im, .inl (cI, 256, .inl fi)), (rc, .inl (cZ, 256, .inl fr))] (fun r => r = refM fr fi) := by
  refine ofR (cc := c_MO_refusal) (maxL := 5) (ret := (some .int)) (by decide) rfl (Nat.le_of_ble_eq_true rfl) ?_
  intro p e s m args below meth c H hH0 hx hb hr hlocks hts hown hml ls hl hP hK hN
  have hown : s.vm.findClass R_MO = some m.cls := hown
  have hl : lv_has ls 5 [(0, .ref o)] := hl
  refine lv_iconst (v := 0) hx hb d_MO_refusal_0 (by decide) ?_
  refine lv_istore_n hx hb d_MO_refusal_1 rfl hl (by decide) rfl (fun ls hl => ?_)
  have hl : lv_has ls 5 [(1, .int 0), (0, .ref o)] := hl
  refine lv_iconst (v := 3) hx hb d_MO_refusal_2 (by decide) ?_
  refine lv_istore_n hx hb d_MO_refusal_3 rfl hl (by decide) rfl (fun ls hl => ?_)
  have hl : lv_has ls 5 [(2, .int 3), (1, .int 0), (0, .ref o)] := hl
  refine lv_iload_n hx hb d_MO_refusal_4 rfl (lv_at hl 0 rfl) ?_
  refine lv_if_le (tgt := 98) hx hb d_MO_refusal_5 rfl (fun hq9 => absurd hq9 (by decide)) (fun _ => ?_)
  refine lv_sipush (v := 255) hx hb d_MO_refusal_8 (by decide) ?_
  refine lv_istore_n hx hb d_MO_refusal_11 rfl hl (by decide) rfl (fun ls hl => ?_)
  have hl : lv_has ls 5 [(3, .int 255), (2, .int 3), (1, .int 0), (0, .ref o)] := hl
  have loop3 : ∀ (k : Nat) (f : Int32), (k ≤ 256) → (refK (lasB fr fi) (-3000) 256 0 = refK (lasB fr fi) (-3000) k f) → ∀ (ls : Array Slot), lv_has ls 5 [(3, .int (nI k - 1)), (2, .int 3), (1, .int f), (0, .ref o)] → W p l e { frames := 2, cells := 0, slots := 0, locals := 43 } s m args below meth c H [] 0 0 (MQ below (vp_Si (fun r => r = refM fr fi)) args s 0 0 (fun _ => False)) (F0 m 12 ls []) := by
    intro k
    induction k with
    | zero =>
      intro f hk hI ls hl
      have hf9 : f = refK (lasB fr fi) (-3000) 256 0 := by rw [hI, refK]
      subst hf9
      have hl : lv_has ls 5 [(3, .int (nI 0 - 1)), (2, .int 3), (1, .int (refK (lasB fr fi) (-3000) 256 0)), (0, .ref o)] := hl
      refine lv_iload_n hx hb d_MO_refusal_12 rfl (lv_at hl 0 rfl) ?_
      refine lv_if_lt (tgt := 92) hx hb d_MO_refusal_13 rfl (fun _ => ?_) (fun hq9 => absurd (by decide) hq9)
      refine lv_iinc (k := 1) (v := 2) hx hb d_MO_refusal_92 hl rfl (by decide) (by decide) rfl (fun ls hl => ?_)
      have hl : lv_has ls 5 [(2, .int 2), (3, .int (nI 0 - 1)), (1, .int (refK (lasB fr fi) (-3000) 256 0)), (0, .ref o)] := hl
      refine lv_goto (tgt := 4) hx hb d_MO_refusal_95 rfl ?_
      refine lv_iload_n hx hb d_MO_refusal_4 rfl (lv_at hl 0 rfl) ?_
      refine lv_if_le (tgt := 98) hx hb d_MO_refusal_5 rfl (fun hq9 => absurd hq9 (by decide)) (fun _ => ?_)
      refine lv_sipush (v := 255) hx hb d_MO_refusal_8 (by decide) ?_
      refine lv_istore_n hx hb d_MO_refusal_11 rfl hl (by decide) rfl (fun ls hl => ?_)
      have hl : lv_has ls 5 [(3, .int 255), (2, .int 2), (1, .int (refK (lasB fr fi) (-3000) 256 0)), (0, .ref o)] := hl
      have loop2 : ∀ (k : Nat) (f : Int32), (k ≤ 256) → (refK (secB fr fi) (-2000) 256 (refK (lasB fr fi) (-3000) 256 0) = refK (secB fr fi) (-2000) k f) → ∀ (ls : Array Slot), lv_has ls 5 [(3, .int (nI k - 1)), (2, .int 2), (1, .int f), (0, .ref o)] → W p l e { frames := 2, cells := 0, slots := 0, locals := 43 } s m args below meth c H [] 0 0 (MQ below (vp_Si (fun r => r = refM fr fi)) args s 0 0 (fun _ => False)) (F0 m 12 ls []) := by
        intro k
        induction k with
        | zero =>
          intro f hk hI ls hl
          have hf9 : f = refK (secB fr fi) (-2000) 256 (refK (lasB fr fi) (-3000) 256 0) := by rw [hI, refK]
          subst hf9
          have hl : lv_has ls 5 [(3, .int (nI 0 - 1)), (2, .int 2), (1, .int (refK (secB fr fi) (-2000) 256 (refK (lasB fr fi) (-3000) 256 0))), (0, .ref o)] := hl
          refine lv_iload_n hx hb d_MO_refusal_12 rfl (lv_at hl 0 rfl) ?_
          refine lv_if_lt (tgt := 92) hx hb d_MO_refusal_13 rfl (fun _ => ?_) (fun hq9 => absurd (by decide) hq9)
          refine lv_iinc (k := 1) (v := 1) hx hb d_MO_refusal_92 hl rfl (by decide) (by decide) rfl (fun ls hl => ?_)
          have hl : lv_has ls 5 [(2, .int 1), (3, .int (nI 0 - 1)), (1, .int (refK (secB fr fi) (-2000) 256 (refK (lasB fr fi) (-3000) 256 0))), (0, .ref o)] := hl
          refine lv_goto (tgt := 4) hx hb d_MO_refusal_95 rfl ?_
          refine lv_iload_n hx hb d_MO_refusal_4 rfl (lv_at hl 0 rfl) ?_
          refine lv_if_le (tgt := 98) hx hb d_MO_refusal_5 rfl (fun hq9 => absurd hq9 (by decide)) (fun _ => ?_)
          refine lv_sipush (v := 255) hx hb d_MO_refusal_8 (by decide) ?_
          refine lv_istore_n hx hb d_MO_refusal_11 rfl hl (by decide) rfl (fun ls hl => ?_)
          have hl : lv_has ls 5 [(3, .int 255), (2, .int 1), (1, .int (refK (secB fr fi) (-2000) 256 (refK (lasB fr fi) (-3000) 256 0))), (0, .ref o)] := hl
          have loop1 : ∀ (k : Nat) (f : Int32), (k ≤ 256) → (refK (unkM fr fi) (-1000) 256 (refK (secB fr fi) (-2000) 256 (refK (lasB fr fi) (-3000) 256 0)) = refK (unkM fr fi) (-1000) k f) → ∀ (ls : Array Slot), lv_has ls 5 [(3, .int (nI k - 1)), (2, .int 1), (1, .int f), (0, .ref o)] → W p l e { frames := 2, cells := 0, slots := 0, locals := 43 } s m args below meth c H [] 0 0 (MQ below (vp_Si (fun r => r = refM fr fi)) args s 0 0 (fun _ => False)) (F0 m 12 ls []) := by
            intro k
            induction k with
            | zero =>
              intro f hk hI ls hl
              have hf9 : f = refK (unkM fr fi) (-1000) 256 (refK (secB fr fi) (-2000) 256 (refK (lasB fr fi) (-3000) 256 0)) := by rw [hI, refK]
              subst hf9
              have hl : lv_has ls 5 [(3, .int (nI 0 - 1)), (2, .int 1), (1, .int (refK (unkM fr fi) (-1000) 256 (refK (secB fr fi) (-2000) 256 (refK (lasB fr fi) (-3000) 256 0)))), (0, .ref o)] := hl
              refine lv_iload_n hx hb d_MO_refusal_12 rfl (lv_at hl 0 rfl) ?_
              refine lv_if_lt (tgt := 92) hx hb d_MO_refusal_13 rfl (fun _ => ?_) (fun hq9 => absurd (by decide) hq9)
              refine lv_iinc (k := 1) (v := 0) hx hb d_MO_refusal_92 hl rfl (by decide) (by decide) rfl (fun ls hl => ?_)
              have hl : lv_has ls 5 [(2, .int 0), (3, .int (nI 0 - 1)), (1, .int (refK (unkM fr fi) (-1000) 256 (refK (secB fr fi) (-2000) 256 (refK (lasB fr fi) (-3000) 256 0)))), (0, .ref o)] := hl
              refine lv_goto (tgt := 4) hx hb d_MO_refusal_95 rfl ?_
              refine lv_iload_n hx hb d_MO_refusal_4 rfl (lv_at hl 0 rfl) ?_
              refine lv_if_le (tgt := 98) hx hb d_MO_refusal_5 rfl (fun _ => ?_) (fun hq9 => absurd (by decide) hq9)
              refine lv_iload_n hx hb d_MO_refusal_98 rfl (lv_at hl 2 rfl) ?_
              exact W.iret (v := (refK (unkM fr fi) (-1000) 256 (refK (secB fr fi) (-2000) 256 (refK (lasB fr fi) (-3000) 256 0)))) hx hb hr (fun t ht hW => ⟨(refK (unkM fr fi) (-1000) 256 (refK (secB fr fi) (-2000) 256 (refK (lasB fr fi) (-3000) 256 0))), rfl, rfl, ht.trans hH0.symm⟩) (fun _ h9 => absurd h9 List.not_mem_nil) d_MO_refusal_99
            | succ k ih =>
              intro f hk hI ls hl
              rw [nI_pred] at hl
              have hl : lv_has ls 5 [(3, .int (nI k)), (2, .int 1), (1, .int f), (0, .ref o)] := hl
              refine lv_iload_n hx hb d_MO_refusal_12 rfl (lv_at hl 0 rfl) ?_
              refine lv_if_lt (tgt := 92) hx hb d_MO_refusal_13 rfl (fun hq9 => absurd hq9 (nI_pos (by omega))) (fun _ => ?_)
              refine lv_iload_n hx hb d_MO_refusal_16 rfl (lv_at hl 1 rfl) ?_
              refine lv_iconst (v := 1) hx hb d_MO_refusal_17 (by decide) ?_
              refine lv_icmp_ne (tgt := 49) hx hb d_MO_refusal_18 rfl (fun hq9 => absurd (by decide) hq9) (fun _ => ?_)
              refine lv_aload_n hx hb d_MO_refusal_21 rfl (lv_at hl 3 rfl) ?_
              refine va_get (D := D) (ci := 5) (v := .ref rc) (C := R_MO) (T := T_MO) (N := 18) hx hb hts iw_MO hown hK hP 0 rfl rfl 3 (by decide) (hts _ k_698) (fun _ h9 => h9) rfl d_MO_refusal_22 ?_
              refine lv_iload_n hx hb d_MO_refusal_25 rfl (lv_at hl 0 rfl) ?_
              refine va_zald hx hb hK hP 2 1 rfl rfl (vp_in_nI (by omega) (by decide)) d_MO_refusal_26 ?_
              refine lv_topi (fun y9 e9 => ?_)
              have e9 : y9 = fr k := e9.trans (by rw [nI_clamp (by omega)])
              subst e9
              refine lv_if_eq (tgt := 45) hx hb d_MO_refusal_27 rfl (fun h27 => ?_) (fun h27 => ?_)
              · have h27 : fr k = 0 := h27
                refine lv_iconst (v := 0) hx hb d_MO_refusal_45 (by decide) ?_
                refine lv_goto (tgt := 67) hx hb d_MO_refusal_46 rfl ?_
                refine lv_istore hx hb d_MO_refusal_67 hl (by decide) rfl (fun ls hl => ?_)
                have hl : lv_has ls 5 [(4, .int 0), (3, .int (nI k)), (2, .int 1), (1, .int f), (0, .ref o)] := hl
                refine lv_iload hx hb d_MO_refusal_69 (lv_at hl 0 rfl) ?_
                refine lv_if_eq (tgt := 84) hx hb d_MO_refusal_71 rfl (fun _ => ?_) (fun hq9 => absurd (by decide) hq9)
                refine lv_iload_n hx hb d_MO_refusal_84 rfl (lv_at hl 3 rfl) ?_
                refine lv_istore_n hx hb d_MO_refusal_85 rfl hl (by decide) rfl (fun ls hl => ?_)
                have hl : lv_has ls 5 [(1, .int f), (4, .int 0), (3, .int (nI k)), (2, .int 1), (0, .ref o)] := hl
                refine lv_iinc (k := 2) (v := nI k - 1) hx hb d_MO_refusal_86 hl rfl (nI_dec _) (by decide) rfl (fun ls hl => ?_)
                have hl : lv_has ls 5 [(3, .int (nI k - 1)), (1, .int f), (4, .int 0), (2, .int 1), (0, .ref o)] := hl
                refine lv_goto (tgt := 12) hx hb d_MO_refusal_89 rfl ?_
                exact ih f (by omega) (by rw [hI, refK, if_neg (by rw [unkM, if_pos h27]; decide)]) ls (lv_sub hl [0, 3, 1, 4] rfl)
              · have h27 : ¬ fr k = 0 := h27
                refine lv_aload_n hx hb d_MO_refusal_30 rfl (lv_at hl 3 rfl) ?_
                refine va_get (D := D) (ci := 5) (v := .ref im) (C := R_MO) (T := T_MO) (N := 18) hx hb hts iw_MO hown hK hP 0 rfl rfl 1 (by decide) (hts _ k_696) (fun _ h9 => h9) rfl d_MO_refusal_31 ?_
                refine lv_iload_n hx hb d_MO_refusal_34 rfl (lv_at hl 0 rfl) ?_
                refine va_iald hx hb hK hP 1 0 rfl rfl (vp_in_nI (by omega) (by decide)) d_MO_refusal_35 ?_
                refine lv_topi (fun y9 e9 => ?_)
                have e9 : y9 = fi k := e9.trans (by rw [nI_clamp (by omega)])
                subst e9
                refine lv_bipush (v := 31) hx hb d_MO_refusal_36 (by decide) ?_
                refine lv_icmp_le (tgt := 45) hx hb d_MO_refusal_38 rfl (fun h38 => ?_) (fun h38 => ?_)
                · refine lv_iconst (v := 0) hx hb d_MO_refusal_45 (by decide) ?_
                  refine lv_goto (tgt := 67) hx hb d_MO_refusal_46 rfl ?_
                  refine lv_istore hx hb d_MO_refusal_67 hl (by decide) rfl (fun ls hl => ?_)
                  have hl : lv_has ls 5 [(4, .int 0), (3, .int (nI k)), (2, .int 1), (1, .int f), (0, .ref o)] := hl
                  refine lv_iload hx hb d_MO_refusal_69 (lv_at hl 0 rfl) ?_
                  refine lv_if_eq (tgt := 84) hx hb d_MO_refusal_71 rfl (fun _ => ?_) (fun hq9 => absurd (by decide) hq9)
                  refine lv_iload_n hx hb d_MO_refusal_84 rfl (lv_at hl 3 rfl) ?_
                  refine lv_istore_n hx hb d_MO_refusal_85 rfl hl (by decide) rfl (fun ls hl => ?_)
                  have hl : lv_has ls 5 [(1, .int f), (4, .int 0), (3, .int (nI k)), (2, .int 1), (0, .ref o)] := hl
                  refine lv_iinc (k := 2) (v := nI k - 1) hx hb d_MO_refusal_86 hl rfl (nI_dec _) (by decide) rfl (fun ls hl => ?_)
                  have hl : lv_has ls 5 [(3, .int (nI k - 1)), (1, .int f), (4, .int 0), (2, .int 1), (0, .ref o)] := hl
                  refine lv_goto (tgt := 12) hx hb d_MO_refusal_89 rfl ?_
                  exact ih f (by omega) (by rw [hI, refK, if_neg (by rw [unkM, if_neg h27, if_pos h38]; decide)]) ls (lv_sub hl [0, 3, 1, 4] rfl)
                · refine lv_iconst (v := 1) hx hb d_MO_refusal_41 (by decide) ?_
                  refine lv_goto (tgt := 67) hx hb d_MO_refusal_42 rfl ?_
                  refine lv_istore hx hb d_MO_refusal_67 hl (by decide) rfl (fun ls hl => ?_)
                  have hl : lv_has ls 5 [(4, .int 1), (3, .int (nI k)), (2, .int 1), (1, .int f), (0, .ref o)] := hl
                  refine lv_iload hx hb d_MO_refusal_69 (lv_at hl 0 rfl) ?_
                  refine lv_if_eq (tgt := 84) hx hb d_MO_refusal_71 rfl (fun hq9 => absurd hq9 (by decide)) (fun _ => ?_)
                  refine lv_sipush (v := (-1000)) hx hb d_MO_refusal_74 (by decide) ?_
                  refine lv_iload_n hx hb d_MO_refusal_77 rfl (lv_at hl 2 rfl) ?_
                  refine lv_imul hx hb d_MO_refusal_78 ?_
                  refine lv_iload_n hx hb d_MO_refusal_79 rfl (lv_at hl 1 rfl) ?_
                  refine lv_isub hx hb d_MO_refusal_80 ?_
                  refine lv_goto (tgt := 85) hx hb d_MO_refusal_81 rfl ?_
                  refine lv_istore_n hx hb d_MO_refusal_85 rfl hl (by decide) rfl (fun ls hl => ?_)
                  have hl : lv_has ls 5 [(1, .int ((-1000) - (nI k))), (4, .int 1), (3, .int (nI k)), (2, .int 1), (0, .ref o)] := hl
                  refine lv_iinc (k := 2) (v := nI k - 1) hx hb d_MO_refusal_86 hl rfl (nI_dec _) (by decide) rfl (fun ls hl => ?_)
                  have hl : lv_has ls 5 [(3, .int (nI k - 1)), (1, .int ((-1000) - (nI k))), (4, .int 1), (2, .int 1), (0, .ref o)] := hl
                  refine lv_goto (tgt := 12) hx hb d_MO_refusal_89 rfl ?_
                  exact ih ((-1000) - (nI k)) (by omega) (by rw [hI, refK, if_pos (by rw [unkM, if_neg h27, if_neg h38])]) ls (lv_sub hl [0, 3, 1, 4] rfl)
          exact loop1 256 (refK (secB fr fi) (-2000) 256 (refK (lasB fr fi) (-3000) 256 0)) (Nat.le_refl _) rfl ls (by rw [show nI 256 - 1 = 255 by decide]; exact lv_sub hl [0, 1, 2, 3] rfl)
        | succ k ih =>
          intro f hk hI ls hl
          rw [nI_pred] at hl
          have hl : lv_has ls 5 [(3, .int (nI k)), (2, .int 2), (1, .int f), (0, .ref o)] := hl
          refine lv_iload_n hx hb d_MO_refusal_12 rfl (lv_at hl 0 rfl) ?_
          refine lv_if_lt (tgt := 92) hx hb d_MO_refusal_13 rfl (fun hq9 => absurd hq9 (nI_pos (by omega))) (fun _ => ?_)
          refine lv_iload_n hx hb d_MO_refusal_16 rfl (lv_at hl 1 rfl) ?_
          refine lv_iconst (v := 1) hx hb d_MO_refusal_17 (by decide) ?_
          refine lv_icmp_ne (tgt := 49) hx hb d_MO_refusal_18 rfl (fun _ => ?_) (fun hq9 => absurd hq9 (by decide))
          refine lv_iload_n hx hb d_MO_refusal_49 rfl (lv_at hl 1 rfl) ?_
          refine lv_iconst (v := 2) hx hb d_MO_refusal_50 (by decide) ?_
          refine lv_icmp_ne (tgt := 62) hx hb d_MO_refusal_51 rfl (fun hq9 => absurd (by decide) hq9) (fun _ => ?_)
          refine lv_aload_n hx hb d_MO_refusal_54 rfl (lv_at hl 3 rfl) ?_
          refine lv_iload_n hx hb d_MO_refusal_55 rfl (lv_at hl 0 rfl) ?_
          have hPc := hP.sub (ws' := [(o, .inr (5, [.int th, .ref im, .int (bI tr), .ref rc, .ref bg, .int ro, .ref oa, .ref xa, .ref ya, .ref rg, .ref me, .ref sa, .ref pa, .ref za, .ref ca, .int (bI kp), .ref ta, .ref na])), (im, .inl (cI, 256, .inl fi)), (rc, .inl (cZ, 256, .inl fr))]) [0, 1, 2] rfl
          refine vp_callSi (va_runV (As := [.int (nI k)]) (rest := []) ⟨hx, hb, hml, hown, hts⟩ (q_isSecond l D cI cZ o th im tr rc bg ro oa xa ya rg me sa pa za ca kp ta na fi fr k (by omega)) ⟨cB 1 hts k_785 k_62 k_782 hd_MO_isSecond ⟨Nat.le_of_ble_eq_true rfl, Nat.le_of_ble_eq_true rfl⟩ rfl rfl, hts _ k_784, hts _ k_28⟩ (PcR.preV (va_recv hK hP (q0 := 0) (ci := 5) rfl rfl) hPc hK hN) rfl rfl hl.1 rfl (lv_room (Nat.le_of_ble_eq_true rfl)) d_MO_refusal_56 ⟨Nat.le_of_ble_eq_true rfl, Nat.le_of_ble_eq_true rfl⟩).run (fun r56 e56 => ?_)
          replace e56 := e56.symm
          subst e56
          refine lv_goto (tgt := 67) hx hb d_MO_refusal_59 rfl ?_
          refine lv_istore hx hb d_MO_refusal_67 hl (by decide) rfl (fun ls hl => ?_)
          have hl : lv_has ls 5 [(4, .int (bI (secB fr fi k))), (3, .int (nI k)), (2, .int 2), (1, .int f), (0, .ref o)] := hl
          refine lv_iload hx hb d_MO_refusal_69 (lv_at hl 0 rfl) ?_
          refine lv_if_eq (tgt := 84) hx hb d_MO_refusal_71 rfl (fun h71 => ?_) (fun h71 => ?_)
          · have h71 : secB fr fi k = false := bI_f h71
            refine lv_iload_n hx hb d_MO_refusal_84 rfl (lv_at hl 3 rfl) ?_
            refine lv_istore_n hx hb d_MO_refusal_85 rfl hl (by decide) rfl (fun ls hl => ?_)
            have hl : lv_has ls 5 [(1, .int f), (4, .int (bI (secB fr fi k))), (3, .int (nI k)), (2, .int 2), (0, .ref o)] := hl
            refine lv_iinc (k := 2) (v := nI k - 1) hx hb d_MO_refusal_86 hl rfl (nI_dec _) (by decide) rfl (fun ls hl => ?_)
            have hl : lv_has ls 5 [(3, .int (nI k - 1)), (1, .int f), (4, .int (bI (secB fr fi k))), (2, .int 2), (0, .ref o)] := hl
            refine lv_goto (tgt := 12) hx hb d_MO_refusal_89 rfl ?_
            exact ih f (by omega) (by rw [hI, refK, if_neg (by rw [h71]; decide)]) ls (lv_sub hl [0, 3, 1, 4] rfl)
          · have h71 : secB fr fi k = true := bI_t h71
            refine lv_sipush (v := (-1000)) hx hb d_MO_refusal_74 (by decide) ?_
            refine lv_iload_n hx hb d_MO_refusal_77 rfl (lv_at hl 2 rfl) ?_
            refine lv_imul hx hb d_MO_refusal_78 ?_
            refine lv_iload_n hx hb d_MO_refusal_79 rfl (lv_at hl 1 rfl) ?_
            refine lv_isub hx hb d_MO_refusal_80 ?_
            refine lv_goto (tgt := 85) hx hb d_MO_refusal_81 rfl ?_
            refine lv_istore_n hx hb d_MO_refusal_85 rfl hl (by decide) rfl (fun ls hl => ?_)
            have hl : lv_has ls 5 [(1, .int ((-2000) - (nI k))), (4, .int (bI (secB fr fi k))), (3, .int (nI k)), (2, .int 2), (0, .ref o)] := hl
            refine lv_iinc (k := 2) (v := nI k - 1) hx hb d_MO_refusal_86 hl rfl (nI_dec _) (by decide) rfl (fun ls hl => ?_)
            have hl : lv_has ls 5 [(3, .int (nI k - 1)), (1, .int ((-2000) - (nI k))), (4, .int (bI (secB fr fi k))), (2, .int 2), (0, .ref o)] := hl
            refine lv_goto (tgt := 12) hx hb d_MO_refusal_89 rfl ?_
            exact ih ((-2000) - (nI k)) (by omega) (by rw [hI, refK, if_pos (h71)]) ls (lv_sub hl [0, 3, 1, 4] rfl)
      exact loop2 256 (refK (lasB fr fi) (-3000) 256 0) (Nat.le_refl _) rfl ls (by rw [show nI 256 - 1 = 255 by decide]; exact lv_sub hl [0, 1, 2, 3] rfl)
    | succ k ih =>
      intro f hk hI ls hl
      rw [nI_pred] at hl
      have hl : lv_has ls 5 [(3, .int (nI k)), (2, .int 3), (1, .int f), (0, .ref o)] := hl
      refine lv_iload_n hx hb d_MO_refusal_12 rfl (lv_at hl 0 rfl) ?_
      refine lv_if_lt (tgt := 92) hx hb d_MO_refusal_13 rfl (fun hq9 => absurd hq9 (nI_pos (by omega))) (fun _ => ?_)
      refine lv_iload_n hx hb d_MO_refusal_16 rfl (lv_at hl 1 rfl) ?_
      refine lv_iconst (v := 1) hx hb d_MO_refusal_17 (by decide) ?_
      refine lv_icmp_ne (tgt := 49) hx hb d_MO_refusal_18 rfl (fun _ => ?_) (fun hq9 => absurd hq9 (by decide))
      refine lv_iload_n hx hb d_MO_refusal_49 rfl (lv_at hl 1 rfl) ?_
      refine lv_iconst (v := 2) hx hb d_MO_refusal_50 (by decide) ?_
      refine lv_icmp_ne (tgt := 62) hx hb d_MO_refusal_51 rfl (fun _ => ?_) (fun hq9 => absurd hq9 (by decide))
      refine lv_aload_n hx hb d_MO_refusal_62 rfl (lv_at hl 3 rfl) ?_
      refine lv_iload_n hx hb d_MO_refusal_63 rfl (lv_at hl 0 rfl) ?_
      have hPc := hP.sub (ws' := [(o, .inr (5, [.int th, .ref im, .int (bI tr), .ref rc, .ref bg, .int ro, .ref oa, .ref xa, .ref ya, .ref rg, .ref me, .ref sa, .ref pa, .ref za, .ref ca, .int (bI kp), .ref ta, .ref na])), (im, .inl (cI, 256, .inl fi)), (rc, .inl (cZ, 256, .inl fr))]) [0, 1, 2] rfl
      refine vp_callSi (va_runV (As := [.int (nI k)]) (rest := []) ⟨hx, hb, hml, hown, hts⟩ (q_isLast l D cI cZ o th im tr rc bg ro oa xa ya rg me sa pa za ca kp ta na fi fr k (by omega)) ⟨cB 1 hts k_789 k_62 k_786 hd_MO_isLast ⟨Nat.le_of_ble_eq_true rfl, Nat.le_of_ble_eq_true rfl⟩ rfl rfl, hts _ k_788, hts _ k_29⟩ (PcR.preV (va_recv hK hP (q0 := 0) (ci := 5) rfl rfl) hPc hK hN) rfl rfl hl.1 rfl (lv_room (Nat.le_of_ble_eq_true rfl)) d_MO_refusal_64 ⟨Nat.le_of_ble_eq_true rfl, Nat.le_of_ble_eq_true rfl⟩).run (fun r64 e64 => ?_)
      replace e64 := e64.symm
      subst e64
      refine lv_istore hx hb d_MO_refusal_67 hl (by decide) rfl (fun ls hl => ?_)
      have hl : lv_has ls 5 [(4, .int (bI (lasB fr fi k))), (3, .int (nI k)), (2, .int 3), (1, .int f), (0, .ref o)] := hl
      refine lv_iload hx hb d_MO_refusal_69 (lv_at hl 0 rfl) ?_
      refine lv_if_eq (tgt := 84) hx hb d_MO_refusal_71 rfl (fun h71 => ?_) (fun h71 => ?_)
      · have h71 : lasB fr fi k = false := bI_f h71
        refine lv_iload_n hx hb d_MO_refusal_84 rfl (lv_at hl 3 rfl) ?_
        refine lv_istore_n hx hb d_MO_refusal_85 rfl hl (by decide) rfl (fun ls hl => ?_)
        have hl : lv_has ls 5 [(1, .int f), (4, .int (bI (lasB fr fi k))), (3, .int (nI k)), (2, .int 3), (0, .ref o)] := hl
        refine lv_iinc (k := 2) (v := nI k - 1) hx hb d_MO_refusal_86 hl rfl (nI_dec _) (by decide) rfl (fun ls hl => ?_)
        have hl : lv_has ls 5 [(3, .int (nI k - 1)), (1, .int f), (4, .int (bI (lasB fr fi k))), (2, .int 3), (0, .ref o)] := hl
        refine lv_goto (tgt := 12) hx hb d_MO_refusal_89 rfl ?_
        exact ih f (by omega) (by rw [hI, refK, if_neg (by rw [h71]; decide)]) ls (lv_sub hl [0, 3, 1, 4] rfl)
      · have h71 : lasB fr fi k = true := bI_t h71
        refine lv_sipush (v := (-1000)) hx hb d_MO_refusal_74 (by decide) ?_
        refine lv_iload_n hx hb d_MO_refusal_77 rfl (lv_at hl 2 rfl) ?_
        refine lv_imul hx hb d_MO_refusal_78 ?_
        refine lv_iload_n hx hb d_MO_refusal_79 rfl (lv_at hl 1 rfl) ?_
        refine lv_isub hx hb d_MO_refusal_80 ?_
        refine lv_goto (tgt := 85) hx hb d_MO_refusal_81 rfl ?_
        refine lv_istore_n hx hb d_MO_refusal_85 rfl hl (by decide) rfl (fun ls hl => ?_)
        have hl : lv_has ls 5 [(1, .int ((-3000) - (nI k))), (4, .int (bI (lasB fr fi k))), (3, .int (nI k)), (2, .int 3), (0, .ref o)] := hl
        refine lv_iinc (k := 2) (v := nI k - 1) hx hb d_MO_refusal_86 hl rfl (nI_dec _) (by decide) rfl (fun ls hl => ?_)
        have hl : lv_has ls 5 [(3, .int (nI k - 1)), (1, .int ((-3000) - (nI k))), (4, .int (bI (lasB fr fi k))), (2, .int 3), (0, .ref o)] := hl
        refine lv_goto (tgt := 12) hx hb d_MO_refusal_89 rfl ?_
        exact ih ((-3000) - (nI k)) (by omega) (by rw [hI, refK, if_pos (h71)]) ls (lv_sub hl [0, 3, 1, 4] rfl)
  exact loop3 256 0 (Nat.le_refl _) rfl ls (by rw [show nI 256 - 1 = 255 by decide]; exact lv_sub hl [0, 1, 2, 3] rfl)
