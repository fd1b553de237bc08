/-! holds, mayTouch -/
theorem x12_holds {I : Nat → Nat → Int32} {J : Nat → Nat → Int64} {F : Option Value → zM → Prop} (hrg : rg I) {a b p q : Int} (ba : -2147483648 ≤ a ∧ a < 2147483648) (bb : -2147483648 ≤ b ∧ b < 2147483648) (bp : -2147483648 ≤ p ∧ p < 2147483648) (bq : -2147483648 ≤ q ∧ q < 2147483648) (hn : ¬ (btr (rd I 171 21) (rd I 171 22) (rd I 171 23) (wNow I) (xx a b p q) (yy a b p q)) → F none (gM I J)) (hy : (btr (rd I 171 21) (rd I 171 22) (rd I 171 23) (wNow I) (xx a b p q) (yy a b p q)) → F none (gM (wr (wr (wr I 171 21 (wNow I)) 171 22 (xx a b p q)) 171 23 (yy a b p q)) J)) : Cl yX12_holds kX12_holds [.ref 171, .int (iI a), .int (iI b), .int (iI p), .int (iI q)] (gM I J) F := by
  refine cl_s (by decide) (by decide) (Nat.le_of_ble_eq_true rfl) rt_v ?_
  show Wp _ F 0 [(0, .ref 171), (1, .int (iI a)), (2, .int (iI b)), (3, .int (iI p)), (4, .int (iI q))] [] _
  refine w_aload_n dX12_holds_0 rfl ?_
  refine v_callV0 dX12_holds_1 lX12_165 vX12_worthNow (by decide) rfl rfl ⟨by decide, rfl⟩ (by decide) rfl (Nat.le_of_ble_eq_true rfl) ?_
  refine x12_worthNow (fun d hd => (hrg d hd).1) (fun d hd => (hrg d hd).2) ?_
  have wb := wNow_bd I
  refine w_istore dX12_holds_4 rfl rfl ?_
  refine w_iload_n dX12_holds_6 rfl ?_
  refine w_iconst (v := iI (-1)) dX12_holds_7 rfl ?_
  refine v_icmp_eq 16 dX12_holds_8 (by decide) (by clear hn hy; omega) (by clear hn hy; omega) (fun c8 => ?_) (fun c8 => ?_)
  · refine w_iload_n dX12_holds_16 rfl ?_
    refine w_goto 22 dX12_holds_17 (by decide) ?_
    refine w_istore dX12_holds_22 rfl rfl ?_
    refine w_iload_n dX12_holds_24 rfl ?_
    refine w_iconst (v := iI (-1)) dX12_holds_25 rfl ?_
    refine v_icmp_eq 34 dX12_holds_26 (by decide) (by clear hn hy; omega) (by clear hn hy; omega) (fun c26 => ?_) (fun c26 => ?_)
    · refine w_iload dX12_holds_34 rfl ?_
      refine w_goto 40 dX12_holds_36 (by decide) ?_
      refine w_istore dX12_holds_40 rfl rfl ?_
      refine w_iload dX12_holds_42 rfl ?_
      refine w_aload_n dX12_holds_44 rfl ?_
      refine v_getI dX12_holds_45 fX12_175 ⟨by decide, rfl⟩ (Or.inl rfl) (fun z45 e45 b45 => ?_)
      refine v_icmp_lt 87 dX12_holds_48 (by decide) (by clear hn hy; omega) (by clear hn hy; omega) (fun c48 => ?_) (fun c48 => ?_)
      · refine v_vret dX12_holds_87 rfl ⟨rfl, rfl⟩ ?_
        first
          | (have ex : xx a b p q = p := if_pos (by omega)
             have ey : yy a b p q = q := if_pos (by omega)
             rw [ex, ey] at hn hy
             exact hn (by unfold btr; clear hn hy; omega))
          | (have ex : xx a b p q = q := if_neg (by omega)
             have ey : yy a b p q = p := if_neg (by omega)
             rw [ex, ey] at hn hy
             exact hn (by unfold btr; clear hn hy; omega))
          | (exfalso; clear hn hy; omega)
      · refine w_iload dX12_holds_51 rfl ?_
        refine w_aload_n dX12_holds_53 rfl ?_
        refine v_getI dX12_holds_54 fX12_175 ⟨by decide, rfl⟩ (Or.inl rfl) (fun z54 e54 b54 => ?_)
        refine v_icmp_ne 88 dX12_holds_57 (by decide) (by clear hn hy; omega) (by clear hn hy; omega) (fun c57 => ?_) (fun c57 => ?_)
        · refine w_aload_n dX12_holds_88 rfl ?_
          refine w_iload dX12_holds_89 rfl ?_
          refine v_putI dX12_holds_91 fX12_175 ⟨by decide, rfl⟩ rfl (Or.inl rfl) ?_
          refine w_aload_n dX12_holds_94 rfl ?_
          refine w_iload dX12_holds_95 rfl ?_
          refine v_putI dX12_holds_97 fX12_178 ⟨by decide, rfl⟩ rfl (Or.inl rfl) ?_
          refine w_aload_n dX12_holds_100 rfl ?_
          refine w_iload dX12_holds_101 rfl ?_
          refine v_putI dX12_holds_103 fX12_181 ⟨by decide, rfl⟩ rfl (Or.inl rfl) ?_
          refine v_vret dX12_holds_106 rfl ⟨rfl, rfl⟩ ?_
          first
            | (have ex : xx a b p q = p := if_pos (by omega)
               have ey : yy a b p q = q := if_pos (by omega)
               rw [ex, ey] at hn hy
               exact hy (by unfold btr; clear hn hy; omega))
            | (have ex : xx a b p q = q := if_neg (by omega)
               have ey : yy a b p q = p := if_neg (by omega)
               rw [ex, ey] at hn hy
               exact hy (by unfold btr; clear hn hy; omega))
            | (exfalso; clear hn hy; omega)
        · refine w_iload dX12_holds_60 rfl ?_
          refine w_aload_n dX12_holds_62 rfl ?_
          refine v_getI dX12_holds_63 fX12_178 ⟨by decide, rfl⟩ (Or.inl rfl) (fun z63 e63 b63 => ?_)
          refine v_icmp_gt 87 dX12_holds_66 (by decide) (by clear hn hy; omega) (by clear hn hy; omega) (fun c66 => ?_) (fun c66 => ?_)
          · refine v_vret dX12_holds_87 rfl ⟨rfl, rfl⟩ ?_
            first
              | (have ex : xx a b p q = p := if_pos (by omega)
                 have ey : yy a b p q = q := if_pos (by omega)
                 rw [ex, ey] at hn hy
                 exact hn (by unfold btr; clear hn hy; omega))
              | (have ex : xx a b p q = q := if_neg (by omega)
                 have ey : yy a b p q = p := if_neg (by omega)
                 rw [ex, ey] at hn hy
                 exact hn (by unfold btr; clear hn hy; omega))
              | (exfalso; clear hn hy; omega)
          · refine w_iload dX12_holds_69 rfl ?_
            refine w_aload_n dX12_holds_71 rfl ?_
            refine v_getI dX12_holds_72 fX12_178 ⟨by decide, rfl⟩ (Or.inl rfl) (fun z72 e72 b72 => ?_)
            refine v_icmp_ne 88 dX12_holds_75 (by decide) (by clear hn hy; omega) (by clear hn hy; omega) (fun c75 => ?_) (fun c75 => ?_)
            · refine w_aload_n dX12_holds_88 rfl ?_
              refine w_iload dX12_holds_89 rfl ?_
              refine v_putI dX12_holds_91 fX12_175 ⟨by decide, rfl⟩ rfl (Or.inl rfl) ?_
              refine w_aload_n dX12_holds_94 rfl ?_
              refine w_iload dX12_holds_95 rfl ?_
              refine v_putI dX12_holds_97 fX12_178 ⟨by decide, rfl⟩ rfl (Or.inl rfl) ?_
              refine w_aload_n dX12_holds_100 rfl ?_
              refine w_iload dX12_holds_101 rfl ?_
              refine v_putI dX12_holds_103 fX12_181 ⟨by decide, rfl⟩ rfl (Or.inl rfl) ?_
              refine v_vret dX12_holds_106 rfl ⟨rfl, rfl⟩ ?_
              first
                | (have ex : xx a b p q = p := if_pos (by omega)
                   have ey : yy a b p q = q := if_pos (by omega)
                   rw [ex, ey] at hn hy
                   exact hy (by unfold btr; clear hn hy; omega))
                | (have ex : xx a b p q = q := if_neg (by omega)
                   have ey : yy a b p q = p := if_neg (by omega)
                   rw [ex, ey] at hn hy
                   exact hy (by unfold btr; clear hn hy; omega))
                | (exfalso; clear hn hy; omega)
            · refine w_iload dX12_holds_78 rfl ?_
              refine w_aload_n dX12_holds_80 rfl ?_
              refine v_getI dX12_holds_81 fX12_181 ⟨by decide, rfl⟩ (Or.inl rfl) (fun z81 e81 b81 => ?_)
              refine v_icmp_lt 88 dX12_holds_84 (by decide) (by clear hn hy; omega) (by clear hn hy; omega) (fun c84 => ?_) (fun c84 => ?_)
              · refine w_aload_n dX12_holds_88 rfl ?_
                refine w_iload dX12_holds_89 rfl ?_
                refine v_putI dX12_holds_91 fX12_175 ⟨by decide, rfl⟩ rfl (Or.inl rfl) ?_
                refine w_aload_n dX12_holds_94 rfl ?_
                refine w_iload dX12_holds_95 rfl ?_
                refine v_putI dX12_holds_97 fX12_178 ⟨by decide, rfl⟩ rfl (Or.inl rfl) ?_
                refine w_aload_n dX12_holds_100 rfl ?_
                refine w_iload dX12_holds_101 rfl ?_
                refine v_putI dX12_holds_103 fX12_181 ⟨by decide, rfl⟩ rfl (Or.inl rfl) ?_
                refine v_vret dX12_holds_106 rfl ⟨rfl, rfl⟩ ?_
                first
                  | (have ex : xx a b p q = p := if_pos (by omega)
                     have ey : yy a b p q = q := if_pos (by omega)
                     rw [ex, ey] at hn hy
                     exact hy (by unfold btr; clear hn hy; omega))
                  | (have ex : xx a b p q = q := if_neg (by omega)
                     have ey : yy a b p q = p := if_neg (by omega)
                     rw [ex, ey] at hn hy
                     exact hy (by unfold btr; clear hn hy; omega))
                  | (exfalso; clear hn hy; omega)
              · refine v_vret dX12_holds_87 rfl ⟨rfl, rfl⟩ ?_
                first
                  | (have ex : xx a b p q = p := if_pos (by omega)
                     have ey : yy a b p q = q := if_pos (by omega)
                     rw [ex, ey] at hn hy
                     exact hn (by unfold btr; clear hn hy; omega))
                  | (have ex : xx a b p q = q := if_neg (by omega)
                     have ey : yy a b p q = p := if_neg (by omega)
                     rw [ex, ey] at hn hy
                     exact hn (by unfold btr; clear hn hy; omega))
                  | (exfalso; clear hn hy; omega)
    · refine w_iload_n dX12_holds_29 rfl ?_
      refine w_iload_n dX12_holds_30 rfl ?_
      refine v_icmp_ge 39 dX12_holds_31 (by decide) (by clear hn hy; omega) (by clear hn hy; omega) (fun c31 => ?_) (fun c31 => ?_)
      · refine w_iload_n dX12_holds_39 rfl ?_
        refine w_istore dX12_holds_40 rfl rfl ?_
        refine w_iload dX12_holds_42 rfl ?_
        refine w_aload_n dX12_holds_44 rfl ?_
        refine v_getI dX12_holds_45 fX12_175 ⟨by decide, rfl⟩ (Or.inl rfl) (fun z45 e45 b45 => ?_)
        refine v_icmp_lt 87 dX12_holds_48 (by decide) (by clear hn hy; omega) (by clear hn hy; omega) (fun c48 => ?_) (fun c48 => ?_)
        · refine v_vret dX12_holds_87 rfl ⟨rfl, rfl⟩ ?_
          first
            | (have ex : xx a b p q = p := if_pos (by omega)
               have ey : yy a b p q = q := if_pos (by omega)
               rw [ex, ey] at hn hy
               exact hn (by unfold btr; clear hn hy; omega))
            | (have ex : xx a b p q = q := if_neg (by omega)
               have ey : yy a b p q = p := if_neg (by omega)
               rw [ex, ey] at hn hy
               exact hn (by unfold btr; clear hn hy; omega))
            | (exfalso; clear hn hy; omega)
        · refine w_iload dX12_holds_51 rfl ?_
          refine w_aload_n dX12_holds_53 rfl ?_
          refine v_getI dX12_holds_54 fX12_175 ⟨by decide, rfl⟩ (Or.inl rfl) (fun z54 e54 b54 => ?_)
          refine v_icmp_ne 88 dX12_holds_57 (by decide) (by clear hn hy; omega) (by clear hn hy; omega) (fun c57 => ?_) (fun c57 => ?_)
          · refine w_aload_n dX12_holds_88 rfl ?_
            refine w_iload dX12_holds_89 rfl ?_
            refine v_putI dX12_holds_91 fX12_175 ⟨by decide, rfl⟩ rfl (Or.inl rfl) ?_
            refine w_aload_n dX12_holds_94 rfl ?_
            refine w_iload dX12_holds_95 rfl ?_
            refine v_putI dX12_holds_97 fX12_178 ⟨by decide, rfl⟩ rfl (Or.inl rfl) ?_
            refine w_aload_n dX12_holds_100 rfl ?_
            refine w_iload dX12_holds_101 rfl ?_
            refine v_putI dX12_holds_103 fX12_181 ⟨by decide, rfl⟩ rfl (Or.inl rfl) ?_
            refine v_vret dX12_holds_106 rfl ⟨rfl, rfl⟩ ?_
            first
              | (have ex : xx a b p q = p := if_pos (by omega)
                 have ey : yy a b p q = q := if_pos (by omega)
                 rw [ex, ey] at hn hy
                 exact hy (by unfold btr; clear hn hy; omega))
              | (have ex : xx a b p q = q := if_neg (by omega)
                 have ey : yy a b p q = p := if_neg (by omega)
                 rw [ex, ey] at hn hy
                 exact hy (by unfold btr; clear hn hy; omega))
              | (exfalso; clear hn hy; omega)
          · refine w_iload dX12_holds_60 rfl ?_
            refine w_aload_n dX12_holds_62 rfl ?_
            refine v_getI dX12_holds_63 fX12_178 ⟨by decide, rfl⟩ (Or.inl rfl) (fun z63 e63 b63 => ?_)
            refine v_icmp_gt 87 dX12_holds_66 (by decide) (by clear hn hy; omega) (by clear hn hy; omega) (fun c66 => ?_) (fun c66 => ?_)
            · refine v_vret dX12_holds_87 rfl ⟨rfl, rfl⟩ ?_
              first
                | (have ex : xx a b p q = p := if_pos (by omega)
                   have ey : yy a b p q = q := if_pos (by omega)
                   rw [ex, ey] at hn hy
                   exact hn (by unfold btr; clear hn hy; omega))
                | (have ex : xx a b p q = q := if_neg (by omega)
                   have ey : yy a b p q = p := if_neg (by omega)
                   rw [ex, ey] at hn hy
                   exact hn (by unfold btr; clear hn hy; omega))
                | (exfalso; clear hn hy; omega)
            · refine w_iload dX12_holds_69 rfl ?_
              refine w_aload_n dX12_holds_71 rfl ?_
              refine v_getI dX12_holds_72 fX12_178 ⟨by decide, rfl⟩ (Or.inl rfl) (fun z72 e72 b72 => ?_)
              refine v_icmp_ne 88 dX12_holds_75 (by decide) (by clear hn hy; omega) (by clear hn hy; omega) (fun c75 => ?_) (fun c75 => ?_)
              · refine w_aload_n dX12_holds_88 rfl ?_
                refine w_iload dX12_holds_89 rfl ?_
                refine v_putI dX12_holds_91 fX12_175 ⟨by decide, rfl⟩ rfl (Or.inl rfl) ?_
                refine w_aload_n dX12_holds_94 rfl ?_
                refine w_iload dX12_holds_95 rfl ?_
                refine v_putI dX12_holds_97 fX12_178 ⟨by decide, rfl⟩ rfl (Or.inl rfl) ?_
                refine w_aload_n dX12_holds_100 rfl ?_
                refine w_iload dX12_holds_101 rfl ?_
                refine v_putI dX12_holds_103 fX12_181 ⟨by decide, rfl⟩ rfl (Or.inl rfl) ?_
                refine v_vret dX12_holds_106 rfl ⟨rfl, rfl⟩ ?_
                first
                  | (have ex : xx a b p q = p := if_pos (by omega)
                     have ey : yy a b p q = q := if_pos (by omega)
                     rw [ex, ey] at hn hy
                     exact hy (by unfold btr; clear hn hy; omega))
                  | (have ex : xx a b p q = q := if_neg (by omega)
                     have ey : yy a b p q = p := if_neg (by omega)
                     rw [ex, ey] at hn hy
                     exact hy (by unfold btr; clear hn hy; omega))
                  | (exfalso; clear hn hy; omega)
              · refine w_iload dX12_holds_78 rfl ?_
                refine w_aload_n dX12_holds_80 rfl ?_
                refine v_getI dX12_holds_81 fX12_181 ⟨by decide, rfl⟩ (Or.inl rfl) (fun z81 e81 b81 => ?_)
                refine v_icmp_lt 88 dX12_holds_84 (by decide) (by clear hn hy; omega) (by clear hn hy; omega) (fun c84 => ?_) (fun c84 => ?_)
                · refine w_aload_n dX12_holds_88 rfl ?_
                  refine w_iload dX12_holds_89 rfl ?_
                  refine v_putI dX12_holds_91 fX12_175 ⟨by decide, rfl⟩ rfl (Or.inl rfl) ?_
                  refine w_aload_n dX12_holds_94 rfl ?_
                  refine w_iload dX12_holds_95 rfl ?_
                  refine v_putI dX12_holds_97 fX12_178 ⟨by decide, rfl⟩ rfl (Or.inl rfl) ?_
                  refine w_aload_n dX12_holds_100 rfl ?_
                  refine w_iload dX12_holds_101 rfl ?_
                  refine v_putI dX12_holds_103 fX12_181 ⟨by decide, rfl⟩ rfl (Or.inl rfl) ?_
                  refine v_vret dX12_holds_106 rfl ⟨rfl, rfl⟩ ?_
                  first
                    | (have ex : xx a b p q = p := if_pos (by omega)
                       have ey : yy a b p q = q := if_pos (by omega)
                       rw [ex, ey] at hn hy
                       exact hy (by unfold btr; clear hn hy; omega))
                    | (have ex : xx a b p q = q := if_neg (by omega)
                       have ey : yy a b p q = p := if_neg (by omega)
                       rw [ex, ey] at hn hy
                       exact hy (by unfold btr; clear hn hy; omega))
                    | (exfalso; clear hn hy; omega)
                · refine v_vret dX12_holds_87 rfl ⟨rfl, rfl⟩ ?_
                  first
                    | (have ex : xx a b p q = p := if_pos (by omega)
                       have ey : yy a b p q = q := if_pos (by omega)
                       rw [ex, ey] at hn hy
                       exact hn (by unfold btr; clear hn hy; omega))
                    | (have ex : xx a b p q = q := if_neg (by omega)
                       have ey : yy a b p q = p := if_neg (by omega)
                       rw [ex, ey] at hn hy
                       exact hn (by unfold btr; clear hn hy; omega))
                    | (exfalso; clear hn hy; omega)
      · refine w_iload dX12_holds_34 rfl ?_
        refine w_goto 40 dX12_holds_36 (by decide) ?_
        refine w_istore dX12_holds_40 rfl rfl ?_
        refine w_iload dX12_holds_42 rfl ?_
        refine w_aload_n dX12_holds_44 rfl ?_
        refine v_getI dX12_holds_45 fX12_175 ⟨by decide, rfl⟩ (Or.inl rfl) (fun z45 e45 b45 => ?_)
        refine v_icmp_lt 87 dX12_holds_48 (by decide) (by clear hn hy; omega) (by clear hn hy; omega) (fun c48 => ?_) (fun c48 => ?_)
        · refine v_vret dX12_holds_87 rfl ⟨rfl, rfl⟩ ?_
          first
            | (have ex : xx a b p q = p := if_pos (by omega)
               have ey : yy a b p q = q := if_pos (by omega)
               rw [ex, ey] at hn hy
               exact hn (by unfold btr; clear hn hy; omega))
            | (have ex : xx a b p q = q := if_neg (by omega)
               have ey : yy a b p q = p := if_neg (by omega)
               rw [ex, ey] at hn hy
               exact hn (by unfold btr; clear hn hy; omega))
            | (exfalso; clear hn hy; omega)
        · refine w_iload dX12_holds_51 rfl ?_
          refine w_aload_n dX12_holds_53 rfl ?_
          refine v_getI dX12_holds_54 fX12_175 ⟨by decide, rfl⟩ (Or.inl rfl) (fun z54 e54 b54 => ?_)
          refine v_icmp_ne 88 dX12_holds_57 (by decide) (by clear hn hy; omega) (by clear hn hy; omega) (fun c57 => ?_) (fun c57 => ?_)
          · refine w_aload_n dX12_holds_88 rfl ?_
            refine w_iload dX12_holds_89 rfl ?_
            refine v_putI dX12_holds_91 fX12_175 ⟨by decide, rfl⟩ rfl (Or.inl rfl) ?_
            refine w_aload_n dX12_holds_94 rfl ?_
            refine w_iload dX12_holds_95 rfl ?_
            refine v_putI dX12_holds_97 fX12_178 ⟨by decide, rfl⟩ rfl (Or.inl rfl) ?_
            refine w_aload_n dX12_holds_100 rfl ?_
            refine w_iload dX12_holds_101 rfl ?_
            refine v_putI dX12_holds_103 fX12_181 ⟨by decide, rfl⟩ rfl (Or.inl rfl) ?_
            refine v_vret dX12_holds_106 rfl ⟨rfl, rfl⟩ ?_
            first
              | (have ex : xx a b p q = p := if_pos (by omega)
                 have ey : yy a b p q = q := if_pos (by omega)
                 rw [ex, ey] at hn hy
                 exact hy (by unfold btr; clear hn hy; omega))
              | (have ex : xx a b p q = q := if_neg (by omega)
                 have ey : yy a b p q = p := if_neg (by omega)
                 rw [ex, ey] at hn hy
                 exact hy (by unfold btr; clear hn hy; omega))
              | (exfalso; clear hn hy; omega)
          · refine w_iload dX12_holds_60 rfl ?_
            refine w_aload_n dX12_holds_62 rfl ?_
            refine v_getI dX12_holds_63 fX12_178 ⟨by decide, rfl⟩ (Or.inl rfl) (fun z63 e63 b63 => ?_)
            refine v_icmp_gt 87 dX12_holds_66 (by decide) (by clear hn hy; omega) (by clear hn hy; omega) (fun c66 => ?_) (fun c66 => ?_)
            · refine v_vret dX12_holds_87 rfl ⟨rfl, rfl⟩ ?_
              first
                | (have ex : xx a b p q = p := if_pos (by omega)
                   have ey : yy a b p q = q := if_pos (by omega)
                   rw [ex, ey] at hn hy
                   exact hn (by unfold btr; clear hn hy; omega))
                | (have ex : xx a b p q = q := if_neg (by omega)
                   have ey : yy a b p q = p := if_neg (by omega)
                   rw [ex, ey] at hn hy
                   exact hn (by unfold btr; clear hn hy; omega))
                | (exfalso; clear hn hy; omega)
            · refine w_iload dX12_holds_69 rfl ?_
              refine w_aload_n dX12_holds_71 rfl ?_
              refine v_getI dX12_holds_72 fX12_178 ⟨by decide, rfl⟩ (Or.inl rfl) (fun z72 e72 b72 => ?_)
              refine v_icmp_ne 88 dX12_holds_75 (by decide) (by clear hn hy; omega) (by clear hn hy; omega) (fun c75 => ?_) (fun c75 => ?_)
              · refine w_aload_n dX12_holds_88 rfl ?_
                refine w_iload dX12_holds_89 rfl ?_
                refine v_putI dX12_holds_91 fX12_175 ⟨by decide, rfl⟩ rfl (Or.inl rfl) ?_
                refine w_aload_n dX12_holds_94 rfl ?_
                refine w_iload dX12_holds_95 rfl ?_
                refine v_putI dX12_holds_97 fX12_178 ⟨by decide, rfl⟩ rfl (Or.inl rfl) ?_
                refine w_aload_n dX12_holds_100 rfl ?_
                refine w_iload dX12_holds_101 rfl ?_
                refine v_putI dX12_holds_103 fX12_181 ⟨by decide, rfl⟩ rfl (Or.inl rfl) ?_
                refine v_vret dX12_holds_106 rfl ⟨rfl, rfl⟩ ?_
                first
                  | (have ex : xx a b p q = p := if_pos (by omega)
                     have ey : yy a b p q = q := if_pos (by omega)
                     rw [ex, ey] at hn hy
                     exact hy (by unfold btr; clear hn hy; omega))
                  | (have ex : xx a b p q = q := if_neg (by omega)
                     have ey : yy a b p q = p := if_neg (by omega)
                     rw [ex, ey] at hn hy
                     exact hy (by unfold btr; clear hn hy; omega))
                  | (exfalso; clear hn hy; omega)
              · refine w_iload dX12_holds_78 rfl ?_
                refine w_aload_n dX12_holds_80 rfl ?_
                refine v_getI dX12_holds_81 fX12_181 ⟨by decide, rfl⟩ (Or.inl rfl) (fun z81 e81 b81 => ?_)
                refine v_icmp_lt 88 dX12_holds_84 (by decide) (by clear hn hy; omega) (by clear hn hy; omega) (fun c84 => ?_) (fun c84 => ?_)
                · refine w_aload_n dX12_holds_88 rfl ?_
                  refine w_iload dX12_holds_89 rfl ?_
                  refine v_putI dX12_holds_91 fX12_175 ⟨by decide, rfl⟩ rfl (Or.inl rfl) ?_
                  refine w_aload_n dX12_holds_94 rfl ?_
                  refine w_iload dX12_holds_95 rfl ?_
                  refine v_putI dX12_holds_97 fX12_178 ⟨by decide, rfl⟩ rfl (Or.inl rfl) ?_
                  refine w_aload_n dX12_holds_100 rfl ?_
                  refine w_iload dX12_holds_101 rfl ?_
                  refine v_putI dX12_holds_103 fX12_181 ⟨by decide, rfl⟩ rfl (Or.inl rfl) ?_
                  refine v_vret dX12_holds_106 rfl ⟨rfl, rfl⟩ ?_
                  first
                    | (have ex : xx a b p q = p := if_pos (by omega)
                       have ey : yy a b p q = q := if_pos (by omega)
                       rw [ex, ey] at hn hy
                       exact hy (by unfold btr; clear hn hy; omega))
                    | (have ex : xx a b p q = q := if_neg (by omega)
                       have ey : yy a b p q = p := if_neg (by omega)
                       rw [ex, ey] at hn hy
                       exact hy (by unfold btr; clear hn hy; omega))
                    | (exfalso; clear hn hy; omega)
                · refine v_vret dX12_holds_87 rfl ⟨rfl, rfl⟩ ?_
                  first
                    | (have ex : xx a b p q = p := if_pos (by omega)
                       have ey : yy a b p q = q := if_pos (by omega)
                       rw [ex, ey] at hn hy
                       exact hn (by unfold btr; clear hn hy; omega))
                    | (have ex : xx a b p q = q := if_neg (by omega)
                       have ey : yy a b p q = p := if_neg (by omega)
                       rw [ex, ey] at hn hy
                       exact hn (by unfold btr; clear hn hy; omega))
                    | (exfalso; clear hn hy; omega)
  · refine w_iload_n dX12_holds_11 rfl ?_
    refine w_iload_n dX12_holds_12 rfl ?_
    refine v_icmp_ge 20 dX12_holds_13 (by decide) (by clear hn hy; omega) (by clear hn hy; omega) (fun c13 => ?_) (fun c13 => ?_)
    · refine w_iload dX12_holds_20 rfl ?_
      refine w_istore dX12_holds_22 rfl rfl ?_
      refine w_iload_n dX12_holds_24 rfl ?_
      refine w_iconst (v := iI (-1)) dX12_holds_25 rfl ?_
      refine v_icmp_eq 34 dX12_holds_26 (by decide) (by clear hn hy; omega) (by clear hn hy; omega) (fun c26 => ?_) (fun c26 => ?_)
      · refine w_iload dX12_holds_34 rfl ?_
        refine w_goto 40 dX12_holds_36 (by decide) ?_
        refine w_istore dX12_holds_40 rfl rfl ?_
        refine w_iload dX12_holds_42 rfl ?_
        refine w_aload_n dX12_holds_44 rfl ?_
        refine v_getI dX12_holds_45 fX12_175 ⟨by decide, rfl⟩ (Or.inl rfl) (fun z45 e45 b45 => ?_)
        refine v_icmp_lt 87 dX12_holds_48 (by decide) (by clear hn hy; omega) (by clear hn hy; omega) (fun c48 => ?_) (fun c48 => ?_)
        · refine v_vret dX12_holds_87 rfl ⟨rfl, rfl⟩ ?_
          first
            | (have ex : xx a b p q = p := if_pos (by omega)
               have ey : yy a b p q = q := if_pos (by omega)
               rw [ex, ey] at hn hy
               exact hn (by unfold btr; clear hn hy; omega))
            | (have ex : xx a b p q = q := if_neg (by omega)
               have ey : yy a b p q = p := if_neg (by omega)
               rw [ex, ey] at hn hy
               exact hn (by unfold btr; clear hn hy; omega))
            | (exfalso; clear hn hy; omega)
        · refine w_iload dX12_holds_51 rfl ?_
          refine w_aload_n dX12_holds_53 rfl ?_
          refine v_getI dX12_holds_54 fX12_175 ⟨by decide, rfl⟩ (Or.inl rfl) (fun z54 e54 b54 => ?_)
          refine v_icmp_ne 88 dX12_holds_57 (by decide) (by clear hn hy; omega) (by clear hn hy; omega) (fun c57 => ?_) (fun c57 => ?_)
          · refine w_aload_n dX12_holds_88 rfl ?_
            refine w_iload dX12_holds_89 rfl ?_
            refine v_putI dX12_holds_91 fX12_175 ⟨by decide, rfl⟩ rfl (Or.inl rfl) ?_
            refine w_aload_n dX12_holds_94 rfl ?_
            refine w_iload dX12_holds_95 rfl ?_
            refine v_putI dX12_holds_97 fX12_178 ⟨by decide, rfl⟩ rfl (Or.inl rfl) ?_
            refine w_aload_n dX12_holds_100 rfl ?_
            refine w_iload dX12_holds_101 rfl ?_
            refine v_putI dX12_holds_103 fX12_181 ⟨by decide, rfl⟩ rfl (Or.inl rfl) ?_
            refine v_vret dX12_holds_106 rfl ⟨rfl, rfl⟩ ?_
            first
              | (have ex : xx a b p q = p := if_pos (by omega)
                 have ey : yy a b p q = q := if_pos (by omega)
                 rw [ex, ey] at hn hy
                 exact hy (by unfold btr; clear hn hy; omega))
              | (have ex : xx a b p q = q := if_neg (by omega)
                 have ey : yy a b p q = p := if_neg (by omega)
                 rw [ex, ey] at hn hy
                 exact hy (by unfold btr; clear hn hy; omega))
              | (exfalso; clear hn hy; omega)
          · refine w_iload dX12_holds_60 rfl ?_
            refine w_aload_n dX12_holds_62 rfl ?_
            refine v_getI dX12_holds_63 fX12_178 ⟨by decide, rfl⟩ (Or.inl rfl) (fun z63 e63 b63 => ?_)
            refine v_icmp_gt 87 dX12_holds_66 (by decide) (by clear hn hy; omega) (by clear hn hy; omega) (fun c66 => ?_) (fun c66 => ?_)
            · refine v_vret dX12_holds_87 rfl ⟨rfl, rfl⟩ ?_
              first
                | (have ex : xx a b p q = p := if_pos (by omega)
                   have ey : yy a b p q = q := if_pos (by omega)
                   rw [ex, ey] at hn hy
                   exact hn (by unfold btr; clear hn hy; omega))
                | (have ex : xx a b p q = q := if_neg (by omega)
                   have ey : yy a b p q = p := if_neg (by omega)
                   rw [ex, ey] at hn hy
                   exact hn (by unfold btr; clear hn hy; omega))
                | (exfalso; clear hn hy; omega)
            · refine w_iload dX12_holds_69 rfl ?_
              refine w_aload_n dX12_holds_71 rfl ?_
              refine v_getI dX12_holds_72 fX12_178 ⟨by decide, rfl⟩ (Or.inl rfl) (fun z72 e72 b72 => ?_)
              refine v_icmp_ne 88 dX12_holds_75 (by decide) (by clear hn hy; omega) (by clear hn hy; omega) (fun c75 => ?_) (fun c75 => ?_)
              · refine w_aload_n dX12_holds_88 rfl ?_
                refine w_iload dX12_holds_89 rfl ?_
                refine v_putI dX12_holds_91 fX12_175 ⟨by decide, rfl⟩ rfl (Or.inl rfl) ?_
                refine w_aload_n dX12_holds_94 rfl ?_
                refine w_iload dX12_holds_95 rfl ?_
                refine v_putI dX12_holds_97 fX12_178 ⟨by decide, rfl⟩ rfl (Or.inl rfl) ?_
                refine w_aload_n dX12_holds_100 rfl ?_
                refine w_iload dX12_holds_101 rfl ?_
                refine v_putI dX12_holds_103 fX12_181 ⟨by decide, rfl⟩ rfl (Or.inl rfl) ?_
                refine v_vret dX12_holds_106 rfl ⟨rfl, rfl⟩ ?_
                first
                  | (have ex : xx a b p q = p := if_pos (by omega)
                     have ey : yy a b p q = q := if_pos (by omega)
                     rw [ex, ey] at hn hy
                     exact hy (by unfold btr; clear hn hy; omega))
                  | (have ex : xx a b p q = q := if_neg (by omega)
                     have ey : yy a b p q = p := if_neg (by omega)
                     rw [ex, ey] at hn hy
                     exact hy (by unfold btr; clear hn hy; omega))
                  | (exfalso; clear hn hy; omega)
              · refine w_iload dX12_holds_78 rfl ?_
                refine w_aload_n dX12_holds_80 rfl ?_
                refine v_getI dX12_holds_81 fX12_181 ⟨by decide, rfl⟩ (Or.inl rfl) (fun z81 e81 b81 => ?_)
                refine v_icmp_lt 88 dX12_holds_84 (by decide) (by clear hn hy; omega) (by clear hn hy; omega) (fun c84 => ?_) (fun c84 => ?_)
                · refine w_aload_n dX12_holds_88 rfl ?_
                  refine w_iload dX12_holds_89 rfl ?_
                  refine v_putI dX12_holds_91 fX12_175 ⟨by decide, rfl⟩ rfl (Or.inl rfl) ?_
                  refine w_aload_n dX12_holds_94 rfl ?_
                  refine w_iload dX12_holds_95 rfl ?_
                  refine v_putI dX12_holds_97 fX12_178 ⟨by decide, rfl⟩ rfl (Or.inl rfl) ?_
                  refine w_aload_n dX12_holds_100 rfl ?_
                  refine w_iload dX12_holds_101 rfl ?_
                  refine v_putI dX12_holds_103 fX12_181 ⟨by decide, rfl⟩ rfl (Or.inl rfl) ?_
                  refine v_vret dX12_holds_106 rfl ⟨rfl, rfl⟩ ?_
                  first
                    | (have ex : xx a b p q = p := if_pos (by omega)
                       have ey : yy a b p q = q := if_pos (by omega)
                       rw [ex, ey] at hn hy
                       exact hy (by unfold btr; clear hn hy; omega))
                    | (have ex : xx a b p q = q := if_neg (by omega)
                       have ey : yy a b p q = p := if_neg (by omega)
                       rw [ex, ey] at hn hy
                       exact hy (by unfold btr; clear hn hy; omega))
                    | (exfalso; clear hn hy; omega)
                · refine v_vret dX12_holds_87 rfl ⟨rfl, rfl⟩ ?_
                  first
                    | (have ex : xx a b p q = p := if_pos (by omega)
                       have ey : yy a b p q = q := if_pos (by omega)
                       rw [ex, ey] at hn hy
                       exact hn (by unfold btr; clear hn hy; omega))
                    | (have ex : xx a b p q = q := if_neg (by omega)
                       have ey : yy a b p q = p := if_neg (by omega)
                       rw [ex, ey] at hn hy
                       exact hn (by unfold btr; clear hn hy; omega))
                    | (exfalso; clear hn hy; omega)
      · refine w_iload_n dX12_holds_29 rfl ?_
        refine w_iload_n dX12_holds_30 rfl ?_
        refine v_icmp_ge 39 dX12_holds_31 (by decide) (by clear hn hy; omega) (by clear hn hy; omega) (fun c31 => ?_) (fun c31 => ?_)
        · refine w_iload_n dX12_holds_39 rfl ?_
          refine w_istore dX12_holds_40 rfl rfl ?_
          refine w_iload dX12_holds_42 rfl ?_
          refine w_aload_n dX12_holds_44 rfl ?_
          refine v_getI dX12_holds_45 fX12_175 ⟨by decide, rfl⟩ (Or.inl rfl) (fun z45 e45 b45 => ?_)
          refine v_icmp_lt 87 dX12_holds_48 (by decide) (by clear hn hy; omega) (by clear hn hy; omega) (fun c48 => ?_) (fun c48 => ?_)
          · refine v_vret dX12_holds_87 rfl ⟨rfl, rfl⟩ ?_
            first
              | (have ex : xx a b p q = p := if_pos (by omega)
                 have ey : yy a b p q = q := if_pos (by omega)
                 rw [ex, ey] at hn hy
                 exact hn (by unfold btr; clear hn hy; omega))
              | (have ex : xx a b p q = q := if_neg (by omega)
                 have ey : yy a b p q = p := if_neg (by omega)
                 rw [ex, ey] at hn hy
                 exact hn (by unfold btr; clear hn hy; omega))
              | (exfalso; clear hn hy; omega)
          · refine w_iload dX12_holds_51 rfl ?_
            refine w_aload_n dX12_holds_53 rfl ?_
            refine v_getI dX12_holds_54 fX12_175 ⟨by decide, rfl⟩ (Or.inl rfl) (fun z54 e54 b54 => ?_)
            refine v_icmp_ne 88 dX12_holds_57 (by decide) (by clear hn hy; omega) (by clear hn hy; omega) (fun c57 => ?_) (fun c57 => ?_)
            · refine w_aload_n dX12_holds_88 rfl ?_
              refine w_iload dX12_holds_89 rfl ?_
              refine v_putI dX12_holds_91 fX12_175 ⟨by decide, rfl⟩ rfl (Or.inl rfl) ?_
              refine w_aload_n dX12_holds_94 rfl ?_
              refine w_iload dX12_holds_95 rfl ?_
              refine v_putI dX12_holds_97 fX12_178 ⟨by decide, rfl⟩ rfl (Or.inl rfl) ?_
              refine w_aload_n dX12_holds_100 rfl ?_
              refine w_iload dX12_holds_101 rfl ?_
              refine v_putI dX12_holds_103 fX12_181 ⟨by decide, rfl⟩ rfl (Or.inl rfl) ?_
              refine v_vret dX12_holds_106 rfl ⟨rfl, rfl⟩ ?_
              first
                | (have ex : xx a b p q = p := if_pos (by omega)
                   have ey : yy a b p q = q := if_pos (by omega)
                   rw [ex, ey] at hn hy
                   exact hy (by unfold btr; clear hn hy; omega))
                | (have ex : xx a b p q = q := if_neg (by omega)
                   have ey : yy a b p q = p := if_neg (by omega)
                   rw [ex, ey] at hn hy
                   exact hy (by unfold btr; clear hn hy; omega))
                | (exfalso; clear hn hy; omega)
            · refine w_iload dX12_holds_60 rfl ?_
              refine w_aload_n dX12_holds_62 rfl ?_
              refine v_getI dX12_holds_63 fX12_178 ⟨by decide, rfl⟩ (Or.inl rfl) (fun z63 e63 b63 => ?_)
              refine v_icmp_gt 87 dX12_holds_66 (by decide) (by clear hn hy; omega) (by clear hn hy; omega) (fun c66 => ?_) (fun c66 => ?_)
              · refine v_vret dX12_holds_87 rfl ⟨rfl, rfl⟩ ?_
                first
                  | (have ex : xx a b p q = p := if_pos (by omega)
                     have ey : yy a b p q = q := if_pos (by omega)
                     rw [ex, ey] at hn hy
                     exact hn (by unfold btr; clear hn hy; omega))
                  | (have ex : xx a b p q = q := if_neg (by omega)
                     have ey : yy a b p q = p := if_neg (by omega)
                     rw [ex, ey] at hn hy
                     exact hn (by unfold btr; clear hn hy; omega))
                  | (exfalso; clear hn hy; omega)
              · refine w_iload dX12_holds_69 rfl ?_
                refine w_aload_n dX12_holds_71 rfl ?_
                refine v_getI dX12_holds_72 fX12_178 ⟨by decide, rfl⟩ (Or.inl rfl) (fun z72 e72 b72 => ?_)
                refine v_icmp_ne 88 dX12_holds_75 (by decide) (by clear hn hy; omega) (by clear hn hy; omega) (fun c75 => ?_) (fun c75 => ?_)
                · refine w_aload_n dX12_holds_88 rfl ?_
                  refine w_iload dX12_holds_89 rfl ?_
                  refine v_putI dX12_holds_91 fX12_175 ⟨by decide, rfl⟩ rfl (Or.inl rfl) ?_
                  refine w_aload_n dX12_holds_94 rfl ?_
                  refine w_iload dX12_holds_95 rfl ?_
                  refine v_putI dX12_holds_97 fX12_178 ⟨by decide, rfl⟩ rfl (Or.inl rfl) ?_
                  refine w_aload_n dX12_holds_100 rfl ?_
                  refine w_iload dX12_holds_101 rfl ?_
                  refine v_putI dX12_holds_103 fX12_181 ⟨by decide, rfl⟩ rfl (Or.inl rfl) ?_
                  refine v_vret dX12_holds_106 rfl ⟨rfl, rfl⟩ ?_
                  first
                    | (have ex : xx a b p q = p := if_pos (by omega)
                       have ey : yy a b p q = q := if_pos (by omega)
                       rw [ex, ey] at hn hy
                       exact hy (by unfold btr; clear hn hy; omega))
                    | (have ex : xx a b p q = q := if_neg (by omega)
                       have ey : yy a b p q = p := if_neg (by omega)
                       rw [ex, ey] at hn hy
                       exact hy (by unfold btr; clear hn hy; omega))
                    | (exfalso; clear hn hy; omega)
                · refine w_iload dX12_holds_78 rfl ?_
                  refine w_aload_n dX12_holds_80 rfl ?_
                  refine v_getI dX12_holds_81 fX12_181 ⟨by decide, rfl⟩ (Or.inl rfl) (fun z81 e81 b81 => ?_)
                  refine v_icmp_lt 88 dX12_holds_84 (by decide) (by clear hn hy; omega) (by clear hn hy; omega) (fun c84 => ?_) (fun c84 => ?_)
                  · refine w_aload_n dX12_holds_88 rfl ?_
                    refine w_iload dX12_holds_89 rfl ?_
                    refine v_putI dX12_holds_91 fX12_175 ⟨by decide, rfl⟩ rfl (Or.inl rfl) ?_
                    refine w_aload_n dX12_holds_94 rfl ?_
                    refine w_iload dX12_holds_95 rfl ?_
                    refine v_putI dX12_holds_97 fX12_178 ⟨by decide, rfl⟩ rfl (Or.inl rfl) ?_
                    refine w_aload_n dX12_holds_100 rfl ?_
                    refine w_iload dX12_holds_101 rfl ?_
                    refine v_putI dX12_holds_103 fX12_181 ⟨by decide, rfl⟩ rfl (Or.inl rfl) ?_
                    refine v_vret dX12_holds_106 rfl ⟨rfl, rfl⟩ ?_
                    first
                      | (have ex : xx a b p q = p := if_pos (by omega)
                         have ey : yy a b p q = q := if_pos (by omega)
                         rw [ex, ey] at hn hy
                         exact hy (by unfold btr; clear hn hy; omega))
                      | (have ex : xx a b p q = q := if_neg (by omega)
                         have ey : yy a b p q = p := if_neg (by omega)
                         rw [ex, ey] at hn hy
                         exact hy (by unfold btr; clear hn hy; omega))
                      | (exfalso; clear hn hy; omega)
                  · refine v_vret dX12_holds_87 rfl ⟨rfl, rfl⟩ ?_
                    first
                      | (have ex : xx a b p q = p := if_pos (by omega)
                         have ey : yy a b p q = q := if_pos (by omega)
                         rw [ex, ey] at hn hy
                         exact hn (by unfold btr; clear hn hy; omega))
                      | (have ex : xx a b p q = q := if_neg (by omega)
                         have ey : yy a b p q = p := if_neg (by omega)
                         rw [ex, ey] at hn hy
                         exact hn (by unfold btr; clear hn hy; omega))
                      | (exfalso; clear hn hy; omega)
        · refine w_iload dX12_holds_34 rfl ?_
          refine w_goto 40 dX12_holds_36 (by decide) ?_
          refine w_istore dX12_holds_40 rfl rfl ?_
          refine w_iload dX12_holds_42 rfl ?_
          refine w_aload_n dX12_holds_44 rfl ?_
          refine v_getI dX12_holds_45 fX12_175 ⟨by decide, rfl⟩ (Or.inl rfl) (fun z45 e45 b45 => ?_)
          refine v_icmp_lt 87 dX12_holds_48 (by decide) (by clear hn hy; omega) (by clear hn hy; omega) (fun c48 => ?_) (fun c48 => ?_)
          · refine v_vret dX12_holds_87 rfl ⟨rfl, rfl⟩ ?_
            first
              | (have ex : xx a b p q = p := if_pos (by omega)
                 have ey : yy a b p q = q := if_pos (by omega)
                 rw [ex, ey] at hn hy
                 exact hn (by unfold btr; clear hn hy; omega))
              | (have ex : xx a b p q = q := if_neg (by omega)
                 have ey : yy a b p q = p := if_neg (by omega)
                 rw [ex, ey] at hn hy
                 exact hn (by unfold btr; clear hn hy; omega))
              | (exfalso; clear hn hy; omega)
          · refine w_iload dX12_holds_51 rfl ?_
            refine w_aload_n dX12_holds_53 rfl ?_
            refine v_getI dX12_holds_54 fX12_175 ⟨by decide, rfl⟩ (Or.inl rfl) (fun z54 e54 b54 => ?_)
            refine v_icmp_ne 88 dX12_holds_57 (by decide) (by clear hn hy; omega) (by clear hn hy; omega) (fun c57 => ?_) (fun c57 => ?_)
            · refine w_aload_n dX12_holds_88 rfl ?_
              refine w_iload dX12_holds_89 rfl ?_
              refine v_putI dX12_holds_91 fX12_175 ⟨by decide, rfl⟩ rfl (Or.inl rfl) ?_
              refine w_aload_n dX12_holds_94 rfl ?_
              refine w_iload dX12_holds_95 rfl ?_
              refine v_putI dX12_holds_97 fX12_178 ⟨by decide, rfl⟩ rfl (Or.inl rfl) ?_
              refine w_aload_n dX12_holds_100 rfl ?_
              refine w_iload dX12_holds_101 rfl ?_
              refine v_putI dX12_holds_103 fX12_181 ⟨by decide, rfl⟩ rfl (Or.inl rfl) ?_
              refine v_vret dX12_holds_106 rfl ⟨rfl, rfl⟩ ?_
              first
                | (have ex : xx a b p q = p := if_pos (by omega)
                   have ey : yy a b p q = q := if_pos (by omega)
                   rw [ex, ey] at hn hy
                   exact hy (by unfold btr; clear hn hy; omega))
                | (have ex : xx a b p q = q := if_neg (by omega)
                   have ey : yy a b p q = p := if_neg (by omega)
                   rw [ex, ey] at hn hy
                   exact hy (by unfold btr; clear hn hy; omega))
                | (exfalso; clear hn hy; omega)
            · refine w_iload dX12_holds_60 rfl ?_
              refine w_aload_n dX12_holds_62 rfl ?_
              refine v_getI dX12_holds_63 fX12_178 ⟨by decide, rfl⟩ (Or.inl rfl) (fun z63 e63 b63 => ?_)
              refine v_icmp_gt 87 dX12_holds_66 (by decide) (by clear hn hy; omega) (by clear hn hy; omega) (fun c66 => ?_) (fun c66 => ?_)
              · refine v_vret dX12_holds_87 rfl ⟨rfl, rfl⟩ ?_
                first
                  | (have ex : xx a b p q = p := if_pos (by omega)
                     have ey : yy a b p q = q := if_pos (by omega)
                     rw [ex, ey] at hn hy
                     exact hn (by unfold btr; clear hn hy; omega))
                  | (have ex : xx a b p q = q := if_neg (by omega)
                     have ey : yy a b p q = p := if_neg (by omega)
                     rw [ex, ey] at hn hy
                     exact hn (by unfold btr; clear hn hy; omega))
                  | (exfalso; clear hn hy; omega)
              · refine w_iload dX12_holds_69 rfl ?_
                refine w_aload_n dX12_holds_71 rfl ?_
                refine v_getI dX12_holds_72 fX12_178 ⟨by decide, rfl⟩ (Or.inl rfl) (fun z72 e72 b72 => ?_)
                refine v_icmp_ne 88 dX12_holds_75 (by decide) (by clear hn hy; omega) (by clear hn hy; omega) (fun c75 => ?_) (fun c75 => ?_)
                · refine w_aload_n dX12_holds_88 rfl ?_
                  refine w_iload dX12_holds_89 rfl ?_
                  refine v_putI dX12_holds_91 fX12_175 ⟨by decide, rfl⟩ rfl (Or.inl rfl) ?_
                  refine w_aload_n dX12_holds_94 rfl ?_
                  refine w_iload dX12_holds_95 rfl ?_
                  refine v_putI dX12_holds_97 fX12_178 ⟨by decide, rfl⟩ rfl (Or.inl rfl) ?_
                  refine w_aload_n dX12_holds_100 rfl ?_
                  refine w_iload dX12_holds_101 rfl ?_
                  refine v_putI dX12_holds_103 fX12_181 ⟨by decide, rfl⟩ rfl (Or.inl rfl) ?_
                  refine v_vret dX12_holds_106 rfl ⟨rfl, rfl⟩ ?_
                  first
                    | (have ex : xx a b p q = p := if_pos (by omega)
                       have ey : yy a b p q = q := if_pos (by omega)
                       rw [ex, ey] at hn hy
                       exact hy (by unfold btr; clear hn hy; omega))
                    | (have ex : xx a b p q = q := if_neg (by omega)
                       have ey : yy a b p q = p := if_neg (by omega)
                       rw [ex, ey] at hn hy
                       exact hy (by unfold btr; clear hn hy; omega))
                    | (exfalso; clear hn hy; omega)
                · refine w_iload dX12_holds_78 rfl ?_
                  refine w_aload_n dX12_holds_80 rfl ?_
                  refine v_getI dX12_holds_81 fX12_181 ⟨by decide, rfl⟩ (Or.inl rfl) (fun z81 e81 b81 => ?_)
                  refine v_icmp_lt 88 dX12_holds_84 (by decide) (by clear hn hy; omega) (by clear hn hy; omega) (fun c84 => ?_) (fun c84 => ?_)
                  · refine w_aload_n dX12_holds_88 rfl ?_
                    refine w_iload dX12_holds_89 rfl ?_
                    refine v_putI dX12_holds_91 fX12_175 ⟨by decide, rfl⟩ rfl (Or.inl rfl) ?_
                    refine w_aload_n dX12_holds_94 rfl ?_
                    refine w_iload dX12_holds_95 rfl ?_
                    refine v_putI dX12_holds_97 fX12_178 ⟨by decide, rfl⟩ rfl (Or.inl rfl) ?_
                    refine w_aload_n dX12_holds_100 rfl ?_
                    refine w_iload dX12_holds_101 rfl ?_
                    refine v_putI dX12_holds_103 fX12_181 ⟨by decide, rfl⟩ rfl (Or.inl rfl) ?_
                    refine v_vret dX12_holds_106 rfl ⟨rfl, rfl⟩ ?_
                    first
                      | (have ex : xx a b p q = p := if_pos (by omega)
                         have ey : yy a b p q = q := if_pos (by omega)
                         rw [ex, ey] at hn hy
                         exact hy (by unfold btr; clear hn hy; omega))
                      | (have ex : xx a b p q = q := if_neg (by omega)
                         have ey : yy a b p q = p := if_neg (by omega)
                         rw [ex, ey] at hn hy
                         exact hy (by unfold btr; clear hn hy; omega))
                      | (exfalso; clear hn hy; omega)
                  · refine v_vret dX12_holds_87 rfl ⟨rfl, rfl⟩ ?_
                    first
                      | (have ex : xx a b p q = p := if_pos (by omega)
                         have ey : yy a b p q = q := if_pos (by omega)
                         rw [ex, ey] at hn hy
                         exact hn (by unfold btr; clear hn hy; omega))
                      | (have ex : xx a b p q = q := if_neg (by omega)
                         have ey : yy a b p q = p := if_neg (by omega)
                         rw [ex, ey] at hn hy
                         exact hn (by unfold btr; clear hn hy; omega))
                      | (exfalso; clear hn hy; omega)
    · refine w_iload_n dX12_holds_16 rfl ?_
      refine w_goto 22 dX12_holds_17 (by decide) ?_
      refine w_istore dX12_holds_22 rfl rfl ?_
      refine w_iload_n dX12_holds_24 rfl ?_
      refine w_iconst (v := iI (-1)) dX12_holds_25 rfl ?_
      refine v_icmp_eq 34 dX12_holds_26 (by decide) (by clear hn hy; omega) (by clear hn hy; omega) (fun c26 => ?_) (fun c26 => ?_)
      · refine w_iload dX12_holds_34 rfl ?_
        refine w_goto 40 dX12_holds_36 (by decide) ?_
        refine w_istore dX12_holds_40 rfl rfl ?_
        refine w_iload dX12_holds_42 rfl ?_
        refine w_aload_n dX12_holds_44 rfl ?_
        refine v_getI dX12_holds_45 fX12_175 ⟨by decide, rfl⟩ (Or.inl rfl) (fun z45 e45 b45 => ?_)
        refine v_icmp_lt 87 dX12_holds_48 (by decide) (by clear hn hy; omega) (by clear hn hy; omega) (fun c48 => ?_) (fun c48 => ?_)
        · refine v_vret dX12_holds_87 rfl ⟨rfl, rfl⟩ ?_
          first
            | (have ex : xx a b p q = p := if_pos (by omega)
               have ey : yy a b p q = q := if_pos (by omega)
               rw [ex, ey] at hn hy
               exact hn (by unfold btr; clear hn hy; omega))
            | (have ex : xx a b p q = q := if_neg (by omega)
               have ey : yy a b p q = p := if_neg (by omega)
               rw [ex, ey] at hn hy
               exact hn (by unfold btr; clear hn hy; omega))
            | (exfalso; clear hn hy; omega)
        · refine w_iload dX12_holds_51 rfl ?_
          refine w_aload_n dX12_holds_53 rfl ?_
          refine v_getI dX12_holds_54 fX12_175 ⟨by decide, rfl⟩ (Or.inl rfl) (fun z54 e54 b54 => ?_)
          refine v_icmp_ne 88 dX12_holds_57 (by decide) (by clear hn hy; omega) (by clear hn hy; omega) (fun c57 => ?_) (fun c57 => ?_)
          · refine w_aload_n dX12_holds_88 rfl ?_
            refine w_iload dX12_holds_89 rfl ?_
            refine v_putI dX12_holds_91 fX12_175 ⟨by decide, rfl⟩ rfl (Or.inl rfl) ?_
            refine w_aload_n dX12_holds_94 rfl ?_
            refine w_iload dX12_holds_95 rfl ?_
            refine v_putI dX12_holds_97 fX12_178 ⟨by decide, rfl⟩ rfl (Or.inl rfl) ?_
            refine w_aload_n dX12_holds_100 rfl ?_
            refine w_iload dX12_holds_101 rfl ?_
            refine v_putI dX12_holds_103 fX12_181 ⟨by decide, rfl⟩ rfl (Or.inl rfl) ?_
            refine v_vret dX12_holds_106 rfl ⟨rfl, rfl⟩ ?_
            first
              | (have ex : xx a b p q = p := if_pos (by omega)
                 have ey : yy a b p q = q := if_pos (by omega)
                 rw [ex, ey] at hn hy
                 exact hy (by unfold btr; clear hn hy; omega))
              | (have ex : xx a b p q = q := if_neg (by omega)
                 have ey : yy a b p q = p := if_neg (by omega)
                 rw [ex, ey] at hn hy
                 exact hy (by unfold btr; clear hn hy; omega))
              | (exfalso; clear hn hy; omega)
          · refine w_iload dX12_holds_60 rfl ?_
            refine w_aload_n dX12_holds_62 rfl ?_
            refine v_getI dX12_holds_63 fX12_178 ⟨by decide, rfl⟩ (Or.inl rfl) (fun z63 e63 b63 => ?_)
            refine v_icmp_gt 87 dX12_holds_66 (by decide) (by clear hn hy; omega) (by clear hn hy; omega) (fun c66 => ?_) (fun c66 => ?_)
            · refine v_vret dX12_holds_87 rfl ⟨rfl, rfl⟩ ?_
              first
                | (have ex : xx a b p q = p := if_pos (by omega)
                   have ey : yy a b p q = q := if_pos (by omega)
                   rw [ex, ey] at hn hy
                   exact hn (by unfold btr; clear hn hy; omega))
                | (have ex : xx a b p q = q := if_neg (by omega)
                   have ey : yy a b p q = p := if_neg (by omega)
                   rw [ex, ey] at hn hy
                   exact hn (by unfold btr; clear hn hy; omega))
                | (exfalso; clear hn hy; omega)
            · refine w_iload dX12_holds_69 rfl ?_
              refine w_aload_n dX12_holds_71 rfl ?_
              refine v_getI dX12_holds_72 fX12_178 ⟨by decide, rfl⟩ (Or.inl rfl) (fun z72 e72 b72 => ?_)
              refine v_icmp_ne 88 dX12_holds_75 (by decide) (by clear hn hy; omega) (by clear hn hy; omega) (fun c75 => ?_) (fun c75 => ?_)
              · refine w_aload_n dX12_holds_88 rfl ?_
                refine w_iload dX12_holds_89 rfl ?_
                refine v_putI dX12_holds_91 fX12_175 ⟨by decide, rfl⟩ rfl (Or.inl rfl) ?_
                refine w_aload_n dX12_holds_94 rfl ?_
                refine w_iload dX12_holds_95 rfl ?_
                refine v_putI dX12_holds_97 fX12_178 ⟨by decide, rfl⟩ rfl (Or.inl rfl) ?_
                refine w_aload_n dX12_holds_100 rfl ?_
                refine w_iload dX12_holds_101 rfl ?_
                refine v_putI dX12_holds_103 fX12_181 ⟨by decide, rfl⟩ rfl (Or.inl rfl) ?_
                refine v_vret dX12_holds_106 rfl ⟨rfl, rfl⟩ ?_
                first
                  | (have ex : xx a b p q = p := if_pos (by omega)
                     have ey : yy a b p q = q := if_pos (by omega)
                     rw [ex, ey] at hn hy
                     exact hy (by unfold btr; clear hn hy; omega))
                  | (have ex : xx a b p q = q := if_neg (by omega)
                     have ey : yy a b p q = p := if_neg (by omega)
                     rw [ex, ey] at hn hy
                     exact hy (by unfold btr; clear hn hy; omega))
                  | (exfalso; clear hn hy; omega)
              · refine w_iload dX12_holds_78 rfl ?_
                refine w_aload_n dX12_holds_80 rfl ?_
                refine v_getI dX12_holds_81 fX12_181 ⟨by decide, rfl⟩ (Or.inl rfl) (fun z81 e81 b81 => ?_)
                refine v_icmp_lt 88 dX12_holds_84 (by decide) (by clear hn hy; omega) (by clear hn hy; omega) (fun c84 => ?_) (fun c84 => ?_)
                · refine w_aload_n dX12_holds_88 rfl ?_
                  refine w_iload dX12_holds_89 rfl ?_
                  refine v_putI dX12_holds_91 fX12_175 ⟨by decide, rfl⟩ rfl (Or.inl rfl) ?_
                  refine w_aload_n dX12_holds_94 rfl ?_
                  refine w_iload dX12_holds_95 rfl ?_
                  refine v_putI dX12_holds_97 fX12_178 ⟨by decide, rfl⟩ rfl (Or.inl rfl) ?_
                  refine w_aload_n dX12_holds_100 rfl ?_
                  refine w_iload dX12_holds_101 rfl ?_
                  refine v_putI dX12_holds_103 fX12_181 ⟨by decide, rfl⟩ rfl (Or.inl rfl) ?_
                  refine v_vret dX12_holds_106 rfl ⟨rfl, rfl⟩ ?_
                  first
                    | (have ex : xx a b p q = p := if_pos (by omega)
                       have ey : yy a b p q = q := if_pos (by omega)
                       rw [ex, ey] at hn hy
                       exact hy (by unfold btr; clear hn hy; omega))
                    | (have ex : xx a b p q = q := if_neg (by omega)
                       have ey : yy a b p q = p := if_neg (by omega)
                       rw [ex, ey] at hn hy
                       exact hy (by unfold btr; clear hn hy; omega))
                    | (exfalso; clear hn hy; omega)
                · refine v_vret dX12_holds_87 rfl ⟨rfl, rfl⟩ ?_
                  first
                    | (have ex : xx a b p q = p := if_pos (by omega)
                       have ey : yy a b p q = q := if_pos (by omega)
                       rw [ex, ey] at hn hy
                       exact hn (by unfold btr; clear hn hy; omega))
                    | (have ex : xx a b p q = q := if_neg (by omega)
                       have ey : yy a b p q = p := if_neg (by omega)
                       rw [ex, ey] at hn hy
                       exact hn (by unfold btr; clear hn hy; omega))
                    | (exfalso; clear hn hy; omega)
      · refine w_iload_n dX12_holds_29 rfl ?_
        refine w_iload_n dX12_holds_30 rfl ?_
        refine v_icmp_ge 39 dX12_holds_31 (by decide) (by clear hn hy; omega) (by clear hn hy; omega) (fun c31 => ?_) (fun c31 => ?_)
        · refine w_iload_n dX12_holds_39 rfl ?_
          refine w_istore dX12_holds_40 rfl rfl ?_
          refine w_iload dX12_holds_42 rfl ?_
          refine w_aload_n dX12_holds_44 rfl ?_
          refine v_getI dX12_holds_45 fX12_175 ⟨by decide, rfl⟩ (Or.inl rfl) (fun z45 e45 b45 => ?_)
          refine v_icmp_lt 87 dX12_holds_48 (by decide) (by clear hn hy; omega) (by clear hn hy; omega) (fun c48 => ?_) (fun c48 => ?_)
          · refine v_vret dX12_holds_87 rfl ⟨rfl, rfl⟩ ?_
            first
              | (have ex : xx a b p q = p := if_pos (by omega)
                 have ey : yy a b p q = q := if_pos (by omega)
                 rw [ex, ey] at hn hy
                 exact hn (by unfold btr; clear hn hy; omega))
              | (have ex : xx a b p q = q := if_neg (by omega)
                 have ey : yy a b p q = p := if_neg (by omega)
                 rw [ex, ey] at hn hy
                 exact hn (by unfold btr; clear hn hy; omega))
              | (exfalso; clear hn hy; omega)
          · refine w_iload dX12_holds_51 rfl ?_
            refine w_aload_n dX12_holds_53 rfl ?_
            refine v_getI dX12_holds_54 fX12_175 ⟨by decide, rfl⟩ (Or.inl rfl) (fun z54 e54 b54 => ?_)
            refine v_icmp_ne 88 dX12_holds_57 (by decide) (by clear hn hy; omega) (by clear hn hy; omega) (fun c57 => ?_) (fun c57 => ?_)
            · refine w_aload_n dX12_holds_88 rfl ?_
              refine w_iload dX12_holds_89 rfl ?_
              refine v_putI dX12_holds_91 fX12_175 ⟨by decide, rfl⟩ rfl (Or.inl rfl) ?_
              refine w_aload_n dX12_holds_94 rfl ?_
              refine w_iload dX12_holds_95 rfl ?_
              refine v_putI dX12_holds_97 fX12_178 ⟨by decide, rfl⟩ rfl (Or.inl rfl) ?_
              refine w_aload_n dX12_holds_100 rfl ?_
              refine w_iload dX12_holds_101 rfl ?_
              refine v_putI dX12_holds_103 fX12_181 ⟨by decide, rfl⟩ rfl (Or.inl rfl) ?_
              refine v_vret dX12_holds_106 rfl ⟨rfl, rfl⟩ ?_
              first
                | (have ex : xx a b p q = p := if_pos (by omega)
                   have ey : yy a b p q = q := if_pos (by omega)
                   rw [ex, ey] at hn hy
                   exact hy (by unfold btr; clear hn hy; omega))
                | (have ex : xx a b p q = q := if_neg (by omega)
                   have ey : yy a b p q = p := if_neg (by omega)
                   rw [ex, ey] at hn hy
                   exact hy (by unfold btr; clear hn hy; omega))
                | (exfalso; clear hn hy; omega)
            · refine w_iload dX12_holds_60 rfl ?_
              refine w_aload_n dX12_holds_62 rfl ?_
              refine v_getI dX12_holds_63 fX12_178 ⟨by decide, rfl⟩ (Or.inl rfl) (fun z63 e63 b63 => ?_)
              refine v_icmp_gt 87 dX12_holds_66 (by decide) (by clear hn hy; omega) (by clear hn hy; omega) (fun c66 => ?_) (fun c66 => ?_)
              · refine v_vret dX12_holds_87 rfl ⟨rfl, rfl⟩ ?_
                first
                  | (have ex : xx a b p q = p := if_pos (by omega)
                     have ey : yy a b p q = q := if_pos (by omega)
                     rw [ex, ey] at hn hy
                     exact hn (by unfold btr; clear hn hy; omega))
                  | (have ex : xx a b p q = q := if_neg (by omega)
                     have ey : yy a b p q = p := if_neg (by omega)
                     rw [ex, ey] at hn hy
                     exact hn (by unfold btr; clear hn hy; omega))
                  | (exfalso; clear hn hy; omega)
              · refine w_iload dX12_holds_69 rfl ?_
                refine w_aload_n dX12_holds_71 rfl ?_
                refine v_getI dX12_holds_72 fX12_178 ⟨by decide, rfl⟩ (Or.inl rfl) (fun z72 e72 b72 => ?_)
                refine v_icmp_ne 88 dX12_holds_75 (by decide) (by clear hn hy; omega) (by clear hn hy; omega) (fun c75 => ?_) (fun c75 => ?_)
                · refine w_aload_n dX12_holds_88 rfl ?_
                  refine w_iload dX12_holds_89 rfl ?_
                  refine v_putI dX12_holds_91 fX12_175 ⟨by decide, rfl⟩ rfl (Or.inl rfl) ?_
                  refine w_aload_n dX12_holds_94 rfl ?_
                  refine w_iload dX12_holds_95 rfl ?_
                  refine v_putI dX12_holds_97 fX12_178 ⟨by decide, rfl⟩ rfl (Or.inl rfl) ?_
                  refine w_aload_n dX12_holds_100 rfl ?_
                  refine w_iload dX12_holds_101 rfl ?_
                  refine v_putI dX12_holds_103 fX12_181 ⟨by decide, rfl⟩ rfl (Or.inl rfl) ?_
                  refine v_vret dX12_holds_106 rfl ⟨rfl, rfl⟩ ?_
                  first
                    | (have ex : xx a b p q = p := if_pos (by omega)
                       have ey : yy a b p q = q := if_pos (by omega)
                       rw [ex, ey] at hn hy
                       exact hy (by unfold btr; clear hn hy; omega))
                    | (have ex : xx a b p q = q := if_neg (by omega)
                       have ey : yy a b p q = p := if_neg (by omega)
                       rw [ex, ey] at hn hy
                       exact hy (by unfold btr; clear hn hy; omega))
                    | (exfalso; clear hn hy; omega)
                · refine w_iload dX12_holds_78 rfl ?_
                  refine w_aload_n dX12_holds_80 rfl ?_
                  refine v_getI dX12_holds_81 fX12_181 ⟨by decide, rfl⟩ (Or.inl rfl) (fun z81 e81 b81 => ?_)
                  refine v_icmp_lt 88 dX12_holds_84 (by decide) (by clear hn hy; omega) (by clear hn hy; omega) (fun c84 => ?_) (fun c84 => ?_)
                  · refine w_aload_n dX12_holds_88 rfl ?_
                    refine w_iload dX12_holds_89 rfl ?_
                    refine v_putI dX12_holds_91 fX12_175 ⟨by decide, rfl⟩ rfl (Or.inl rfl) ?_
                    refine w_aload_n dX12_holds_94 rfl ?_
                    refine w_iload dX12_holds_95 rfl ?_
                    refine v_putI dX12_holds_97 fX12_178 ⟨by decide, rfl⟩ rfl (Or.inl rfl) ?_
                    refine w_aload_n dX12_holds_100 rfl ?_
                    refine w_iload dX12_holds_101 rfl ?_
                    refine v_putI dX12_holds_103 fX12_181 ⟨by decide, rfl⟩ rfl (Or.inl rfl) ?_
                    refine v_vret dX12_holds_106 rfl ⟨rfl, rfl⟩ ?_
                    first
                      | (have ex : xx a b p q = p := if_pos (by omega)
                         have ey : yy a b p q = q := if_pos (by omega)
                         rw [ex, ey] at hn hy
                         exact hy (by unfold btr; clear hn hy; omega))
                      | (have ex : xx a b p q = q := if_neg (by omega)
                         have ey : yy a b p q = p := if_neg (by omega)
                         rw [ex, ey] at hn hy
                         exact hy (by unfold btr; clear hn hy; omega))
                      | (exfalso; clear hn hy; omega)
                  · refine v_vret dX12_holds_87 rfl ⟨rfl, rfl⟩ ?_
                    first
                      | (have ex : xx a b p q = p := if_pos (by omega)
                         have ey : yy a b p q = q := if_pos (by omega)
                         rw [ex, ey] at hn hy
                         exact hn (by unfold btr; clear hn hy; omega))
                      | (have ex : xx a b p q = q := if_neg (by omega)
                         have ey : yy a b p q = p := if_neg (by omega)
                         rw [ex, ey] at hn hy
                         exact hn (by unfold btr; clear hn hy; omega))
                      | (exfalso; clear hn hy; omega)
        · refine w_iload dX12_holds_34 rfl ?_
          refine w_goto 40 dX12_holds_36 (by decide) ?_
          refine w_istore dX12_holds_40 rfl rfl ?_
          refine w_iload dX12_holds_42 rfl ?_
          refine w_aload_n dX12_holds_44 rfl ?_
          refine v_getI dX12_holds_45 fX12_175 ⟨by decide, rfl⟩ (Or.inl rfl) (fun z45 e45 b45 => ?_)
          refine v_icmp_lt 87 dX12_holds_48 (by decide) (by clear hn hy; omega) (by clear hn hy; omega) (fun c48 => ?_) (fun c48 => ?_)
          · refine v_vret dX12_holds_87 rfl ⟨rfl, rfl⟩ ?_
            first
              | (have ex : xx a b p q = p := if_pos (by omega)
                 have ey : yy a b p q = q := if_pos (by omega)
                 rw [ex, ey] at hn hy
                 exact hn (by unfold btr; clear hn hy; omega))
              | (have ex : xx a b p q = q := if_neg (by omega)
                 have ey : yy a b p q = p := if_neg (by omega)
                 rw [ex, ey] at hn hy
                 exact hn (by unfold btr; clear hn hy; omega))
              | (exfalso; clear hn hy; omega)
          · refine w_iload dX12_holds_51 rfl ?_
            refine w_aload_n dX12_holds_53 rfl ?_
            refine v_getI dX12_holds_54 fX12_175 ⟨by decide, rfl⟩ (Or.inl rfl) (fun z54 e54 b54 => ?_)
            refine v_icmp_ne 88 dX12_holds_57 (by decide) (by clear hn hy; omega) (by clear hn hy; omega) (fun c57 => ?_) (fun c57 => ?_)
            · refine w_aload_n dX12_holds_88 rfl ?_
              refine w_iload dX12_holds_89 rfl ?_
              refine v_putI dX12_holds_91 fX12_175 ⟨by decide, rfl⟩ rfl (Or.inl rfl) ?_
              refine w_aload_n dX12_holds_94 rfl ?_
              refine w_iload dX12_holds_95 rfl ?_
              refine v_putI dX12_holds_97 fX12_178 ⟨by decide, rfl⟩ rfl (Or.inl rfl) ?_
              refine w_aload_n dX12_holds_100 rfl ?_
              refine w_iload dX12_holds_101 rfl ?_
              refine v_putI dX12_holds_103 fX12_181 ⟨by decide, rfl⟩ rfl (Or.inl rfl) ?_
              refine v_vret dX12_holds_106 rfl ⟨rfl, rfl⟩ ?_
              first
                | (have ex : xx a b p q = p := if_pos (by omega)
                   have ey : yy a b p q = q := if_pos (by omega)
                   rw [ex, ey] at hn hy
                   exact hy (by unfold btr; clear hn hy; omega))
                | (have ex : xx a b p q = q := if_neg (by omega)
                   have ey : yy a b p q = p := if_neg (by omega)
                   rw [ex, ey] at hn hy
                   exact hy (by unfold btr; clear hn hy; omega))
                | (exfalso; clear hn hy; omega)
            · refine w_iload dX12_holds_60 rfl ?_
              refine w_aload_n dX12_holds_62 rfl ?_
              refine v_getI dX12_holds_63 fX12_178 ⟨by decide, rfl⟩ (Or.inl rfl) (fun z63 e63 b63 => ?_)
              refine v_icmp_gt 87 dX12_holds_66 (by decide) (by clear hn hy; omega) (by clear hn hy; omega) (fun c66 => ?_) (fun c66 => ?_)
              · refine v_vret dX12_holds_87 rfl ⟨rfl, rfl⟩ ?_
                first
                  | (have ex : xx a b p q = p := if_pos (by omega)
                     have ey : yy a b p q = q := if_pos (by omega)
                     rw [ex, ey] at hn hy
                     exact hn (by unfold btr; clear hn hy; omega))
                  | (have ex : xx a b p q = q := if_neg (by omega)
                     have ey : yy a b p q = p := if_neg (by omega)
                     rw [ex, ey] at hn hy
                     exact hn (by unfold btr; clear hn hy; omega))
                  | (exfalso; clear hn hy; omega)
              · refine w_iload dX12_holds_69 rfl ?_
                refine w_aload_n dX12_holds_71 rfl ?_
                refine v_getI dX12_holds_72 fX12_178 ⟨by decide, rfl⟩ (Or.inl rfl) (fun z72 e72 b72 => ?_)
                refine v_icmp_ne 88 dX12_holds_75 (by decide) (by clear hn hy; omega) (by clear hn hy; omega) (fun c75 => ?_) (fun c75 => ?_)
                · refine w_aload_n dX12_holds_88 rfl ?_
                  refine w_iload dX12_holds_89 rfl ?_
                  refine v_putI dX12_holds_91 fX12_175 ⟨by decide, rfl⟩ rfl (Or.inl rfl) ?_
                  refine w_aload_n dX12_holds_94 rfl ?_
                  refine w_iload dX12_holds_95 rfl ?_
                  refine v_putI dX12_holds_97 fX12_178 ⟨by decide, rfl⟩ rfl (Or.inl rfl) ?_
                  refine w_aload_n dX12_holds_100 rfl ?_
                  refine w_iload dX12_holds_101 rfl ?_
                  refine v_putI dX12_holds_103 fX12_181 ⟨by decide, rfl⟩ rfl (Or.inl rfl) ?_
                  refine v_vret dX12_holds_106 rfl ⟨rfl, rfl⟩ ?_
                  first
                    | (have ex : xx a b p q = p := if_pos (by omega)
                       have ey : yy a b p q = q := if_pos (by omega)
                       rw [ex, ey] at hn hy
                       exact hy (by unfold btr; clear hn hy; omega))
                    | (have ex : xx a b p q = q := if_neg (by omega)
                       have ey : yy a b p q = p := if_neg (by omega)
                       rw [ex, ey] at hn hy
                       exact hy (by unfold btr; clear hn hy; omega))
                    | (exfalso; clear hn hy; omega)
                · refine w_iload dX12_holds_78 rfl ?_
                  refine w_aload_n dX12_holds_80 rfl ?_
                  refine v_getI dX12_holds_81 fX12_181 ⟨by decide, rfl⟩ (Or.inl rfl) (fun z81 e81 b81 => ?_)
                  refine v_icmp_lt 88 dX12_holds_84 (by decide) (by clear hn hy; omega) (by clear hn hy; omega) (fun c84 => ?_) (fun c84 => ?_)
                  · refine w_aload_n dX12_holds_88 rfl ?_
                    refine w_iload dX12_holds_89 rfl ?_
                    refine v_putI dX12_holds_91 fX12_175 ⟨by decide, rfl⟩ rfl (Or.inl rfl) ?_
                    refine w_aload_n dX12_holds_94 rfl ?_
                    refine w_iload dX12_holds_95 rfl ?_
                    refine v_putI dX12_holds_97 fX12_178 ⟨by decide, rfl⟩ rfl (Or.inl rfl) ?_
                    refine w_aload_n dX12_holds_100 rfl ?_
                    refine w_iload dX12_holds_101 rfl ?_
                    refine v_putI dX12_holds_103 fX12_181 ⟨by decide, rfl⟩ rfl (Or.inl rfl) ?_
                    refine v_vret dX12_holds_106 rfl ⟨rfl, rfl⟩ ?_
                    first
                      | (have ex : xx a b p q = p := if_pos (by omega)
                         have ey : yy a b p q = q := if_pos (by omega)
                         rw [ex, ey] at hn hy
                         exact hy (by unfold btr; clear hn hy; omega))
                      | (have ex : xx a b p q = q := if_neg (by omega)
                         have ey : yy a b p q = p := if_neg (by omega)
                         rw [ex, ey] at hn hy
                         exact hy (by unfold btr; clear hn hy; omega))
                      | (exfalso; clear hn hy; omega)
                  · refine v_vret dX12_holds_87 rfl ⟨rfl, rfl⟩ ?_
                    first
                      | (have ex : xx a b p q = p := if_pos (by omega)
                         have ey : yy a b p q = q := if_pos (by omega)
                         rw [ex, ey] at hn hy
                         exact hn (by unfold btr; clear hn hy; omega))
                      | (have ex : xx a b p q = q := if_neg (by omega)
                         have ey : yy a b p q = p := if_neg (by omega)
                         rw [ex, ey] at hn hy
                         exact hn (by unfold btr; clear hn hy; omega))
                      | (exfalso; clear hn hy; omega)
theorem x12_mayTouch {I : Nat → Nat → Int32} {J : Nat → Nat → Int64} {F : Option Value → zM → Prop} (hrg : rg I) {a b : Nat} (ha : a < 10) (hb : b < 10) {t o : Int} (bt : -2147483648 ≤ t ∧ t < 2147483648) (bo : -2147483648 ≤ o ∧ o < 2147483648) (ht : mT2 I a b t o → ∀ I', fq S3 I I' → F (some (.int (iI 1))) (gM I' J)) (hf : ¬ mT2 I a b t o → ∀ I', fq S3 I I' → F (some (.int (iI 0))) (gM I' J)) : Cl yX12_mayTouch kX12_mayTouch [.ref 171, .int (iI (a : Int)), .int (iI (b : Int)), .int (iI t), .int (iI o)] (gM I J) F := by
  refine cl_s (by decide) (by decide) (Nat.le_of_ble_eq_true rfl) rt_z ?_
  show Wp _ F 0 [(0, .ref 171), (1, .int (iI (a : Int))), (2, .int (iI (b : Int))), (3, .int (iI t)), (4, .int (iI o))] [] _
  refine w_iload_n dX12_mayTouch_0 rfl ?_
  refine w_iconst (v := iI 2) dX12_mayTouch_1 rfl ?_
  refine v_icmp_ne 13 dX12_mayTouch_2 (by decide) (by first | omega | (clear q16 qo hf ht; omega)) (by first | omega | (clear q16 qo hf ht; omega)) (fun c2 => ?_) (fun c2 => ?_)
  · refine w_aload_n dX12_mayTouch_13 rfl ?_
    refine w_iload_n dX12_mayTouch_14 rfl ?_
    refine w_iload_n dX12_mayTouch_15 rfl ?_
    refine v_callV2 dX12_mayTouch_16 lX12_139 vX12_quarrel (by decide) rfl rfl ⟨by decide, rfl⟩ (by decide) rfl (Nat.le_of_ble_eq_true rfl) ?_
    refine x12_quarrel ha hb (fun d hd => (hrg d hd).1) (fun d hd => (hrg d hd).2) (fun q16 => ?_) (fun q16 => ?_)
    · refine v_if_ne 29 dX12_mayTouch_19 (by decide) (by decide) (fun _ => ?_) (fun q => absurd q (by decide))
      refine w_iconst (v := iI 0) dX12_mayTouch_29 rfl ?_
      refine v_zret dX12_mayTouch_30 rfl ⟨rfl, rfl⟩ (by decide) ?_
      first
        | exact hf (fun g => g.elim (fun u => by clear q16 hf ht; omega) (fun u => u.1 q16)) I (fun _ _ _ => rfl)
        | exact hf (fun g => g.elim (fun u => by clear q16 qo hf ht; omega) (fun u => qo u.2.1)) I1 (fq_2 m1)
    · refine v_if_ne 29 dX12_mayTouch_19 (by decide) (by decide) (fun q => absurd q (by decide)) (fun _ => ?_)
      refine w_aload_n dX12_mayTouch_22 rfl ?_
      refine v_callV0 dX12_mayTouch_23 lX12_136 vX12_laysAll (by decide) rfl rfl ⟨by decide, rfl⟩ (by decide) rfl (Nat.le_of_ble_eq_true rfl) ?_
      refine x12_laysAll (fun d hd => (hrg d hd).1) (fun d hd => (hrg d hd).2) (fun qo I1 s1 m1 => ?_) (fun qo I1 m1 => ?_)
      · refine v_if_ne 31 dX12_mayTouch_26 (by decide) (by decide) (fun _ => ?_) (fun q => absurd q (by decide))
        refine w_aload_n dX12_mayTouch_31 rfl ?_
        refine w_iload_n dX12_mayTouch_32 rfl ?_
        refine w_iload_n dX12_mayTouch_33 rfl ?_
        refine v_callV2 dX12_mayTouch_34 lX12_158 vX12_sides (by decide) rfl rfl ⟨by decide, rfl⟩ (by decide) rfl (Nat.le_of_ble_eq_true rfl) ?_
        refine x12_sides (a := a) (b := b) ha hb ?_
        rw [sdA_sh s1]
        have sb : 0 ≤ sdA I a b ∧ sdA I a b ≤ ((512 : Nat) : Int) * 4 := smN_bd (f := sdK (oL I) a b) (m := 4) 512 (fun j _ => sdK_bd _ _ _ _)
        refine v_if_le 44 dX12_mayTouch_37 (by decide) (by first | omega | (clear q16 qo hf ht; omega)) (fun c37 => ?_) (fun c37 => ?_)
        · refine w_iconst (v := iI 0) dX12_mayTouch_44 rfl ?_
          refine v_zret dX12_mayTouch_45 rfl ⟨rfl, rfl⟩ (by decide) ?_
          first
            | exact ht (Or.inr ⟨q16, qo, by clear q16 qo hf ht; omega⟩) I1 (fq_2 m1)
            | exact hf (fun g => g.elim (fun u => by clear q16 qo hf ht; omega) (fun u => by have := u.2.2; clear q16 qo hf ht u; omega)) I1 (fq_2 m1)
        · refine w_iconst (v := iI 1) dX12_mayTouch_40 rfl ?_
          refine w_goto 45 dX12_mayTouch_41 (by decide) ?_
          refine v_zret dX12_mayTouch_45 rfl ⟨rfl, rfl⟩ (by decide) ?_
          first
            | exact ht (Or.inr ⟨q16, qo, by clear q16 qo hf ht; omega⟩) I1 (fq_2 m1)
            | exact hf (fun g => g.elim (fun u => by clear q16 qo hf ht; omega) (fun u => by have := u.2.2; clear q16 qo hf ht u; omega)) I1 (fq_2 m1)
      · refine v_if_ne 31 dX12_mayTouch_26 (by decide) (by decide) (fun q => absurd q (by decide)) (fun _ => ?_)
        refine w_iconst (v := iI 0) dX12_mayTouch_29 rfl ?_
        refine v_zret dX12_mayTouch_30 rfl ⟨rfl, rfl⟩ (by decide) ?_
        first
          | exact hf (fun g => g.elim (fun u => by clear q16 hf ht; omega) (fun u => u.1 q16)) I (fun _ _ _ => rfl)
          | exact hf (fun g => g.elim (fun u => by clear q16 qo hf ht; omega) (fun u => qo u.2.1)) I1 (fq_2 m1)
  · refine w_iload dX12_mayTouch_5 rfl ?_
    refine w_iconst (v := iI 2) dX12_mayTouch_7 rfl ?_
    refine v_icmp_ne 13 dX12_mayTouch_8 (by decide) (by first | omega | (clear q16 qo hf ht; omega)) (by first | omega | (clear q16 qo hf ht; omega)) (fun c8 => ?_) (fun c8 => ?_)
    · refine w_aload_n dX12_mayTouch_13 rfl ?_
      refine w_iload_n dX12_mayTouch_14 rfl ?_
      refine w_iload_n dX12_mayTouch_15 rfl ?_
      refine v_callV2 dX12_mayTouch_16 lX12_139 vX12_quarrel (by decide) rfl rfl ⟨by decide, rfl⟩ (by decide) rfl (Nat.le_of_ble_eq_true rfl) ?_
      refine x12_quarrel ha hb (fun d hd => (hrg d hd).1) (fun d hd => (hrg d hd).2) (fun q16 => ?_) (fun q16 => ?_)
      · refine v_if_ne 29 dX12_mayTouch_19 (by decide) (by decide) (fun _ => ?_) (fun q => absurd q (by decide))
        refine w_iconst (v := iI 0) dX12_mayTouch_29 rfl ?_
        refine v_zret dX12_mayTouch_30 rfl ⟨rfl, rfl⟩ (by decide) ?_
        first
          | exact hf (fun g => g.elim (fun u => by clear q16 hf ht; omega) (fun u => u.1 q16)) I (fun _ _ _ => rfl)
          | exact hf (fun g => g.elim (fun u => by clear q16 qo hf ht; omega) (fun u => qo u.2.1)) I1 (fq_2 m1)
      · refine v_if_ne 29 dX12_mayTouch_19 (by decide) (by decide) (fun q => absurd q (by decide)) (fun _ => ?_)
        refine w_aload_n dX12_mayTouch_22 rfl ?_
        refine v_callV0 dX12_mayTouch_23 lX12_136 vX12_laysAll (by decide) rfl rfl ⟨by decide, rfl⟩ (by decide) rfl (Nat.le_of_ble_eq_true rfl) ?_
        refine x12_laysAll (fun d hd => (hrg d hd).1) (fun d hd => (hrg d hd).2) (fun qo I1 s1 m1 => ?_) (fun qo I1 m1 => ?_)
        · refine v_if_ne 31 dX12_mayTouch_26 (by decide) (by decide) (fun _ => ?_) (fun q => absurd q (by decide))
          refine w_aload_n dX12_mayTouch_31 rfl ?_
          refine w_iload_n dX12_mayTouch_32 rfl ?_
          refine w_iload_n dX12_mayTouch_33 rfl ?_
          refine v_callV2 dX12_mayTouch_34 lX12_158 vX12_sides (by decide) rfl rfl ⟨by decide, rfl⟩ (by decide) rfl (Nat.le_of_ble_eq_true rfl) ?_
          refine x12_sides (a := a) (b := b) ha hb ?_
          rw [sdA_sh s1]
          have sb : 0 ≤ sdA I a b ∧ sdA I a b ≤ ((512 : Nat) : Int) * 4 := smN_bd (f := sdK (oL I) a b) (m := 4) 512 (fun j _ => sdK_bd _ _ _ _)
          refine v_if_le 44 dX12_mayTouch_37 (by decide) (by first | omega | (clear q16 qo hf ht; omega)) (fun c37 => ?_) (fun c37 => ?_)
          · refine w_iconst (v := iI 0) dX12_mayTouch_44 rfl ?_
            refine v_zret dX12_mayTouch_45 rfl ⟨rfl, rfl⟩ (by decide) ?_
            first
              | exact ht (Or.inr ⟨q16, qo, by clear q16 qo hf ht; omega⟩) I1 (fq_2 m1)
              | exact hf (fun g => g.elim (fun u => by clear q16 qo hf ht; omega) (fun u => by have := u.2.2; clear q16 qo hf ht u; omega)) I1 (fq_2 m1)
          · refine w_iconst (v := iI 1) dX12_mayTouch_40 rfl ?_
            refine w_goto 45 dX12_mayTouch_41 (by decide) ?_
            refine v_zret dX12_mayTouch_45 rfl ⟨rfl, rfl⟩ (by decide) ?_
            first
              | exact ht (Or.inr ⟨q16, qo, by clear q16 qo hf ht; omega⟩) I1 (fq_2 m1)
              | exact hf (fun g => g.elim (fun u => by clear q16 qo hf ht; omega) (fun u => by have := u.2.2; clear q16 qo hf ht u; omega)) I1 (fq_2 m1)
        · refine v_if_ne 31 dX12_mayTouch_26 (by decide) (by decide) (fun q => absurd q (by decide)) (fun _ => ?_)
          refine w_iconst (v := iI 0) dX12_mayTouch_29 rfl ?_
          refine v_zret dX12_mayTouch_30 rfl ⟨rfl, rfl⟩ (by decide) ?_
          first
            | exact hf (fun g => g.elim (fun u => by clear q16 hf ht; omega) (fun u => u.1 q16)) I (fun _ _ _ => rfl)
            | exact hf (fun g => g.elim (fun u => by clear q16 qo hf ht; omega) (fun u => qo u.2.1)) I1 (fq_2 m1)
    · refine w_iconst (v := iI 1) dX12_mayTouch_11 rfl ?_
      refine v_zret dX12_mayTouch_12 rfl ⟨rfl, rfl⟩ (by decide) ?_
      exact ht (Or.inl (by omega)) I (fun _ _ _ => rfl)
