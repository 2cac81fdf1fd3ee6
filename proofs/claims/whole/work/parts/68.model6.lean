theorem lim_eq (v : Int32) : lim v = mlim v := by
  have t0 : (0 : Int32).toInt = 0 := by decide
  have t1 : (255 : Int32).toInt = 255 := by decide
  unfold lim mlim
  by_cases c1 : v < 255
  · simp only [if_pos c1]
    have c3 : ¬ 255 < v := by rw [Int32.lt_iff_toInt_lt] at c1 ⊢; omega
    by_cases c2 : (0 : Int32) < v
    · have c4 : ¬ v < 0 := by rw [Int32.lt_iff_toInt_lt] at c2 ⊢; omega
      rw [if_pos c2, if_neg c4, if_neg c3]
    · rw [if_neg c2]
      by_cases c4 : v < 0
      · rw [if_pos c4]
      · rw [if_neg c4, if_neg c3]
        apply Int32.toInt_inj.mp
        rw [Int32.lt_iff_toInt_lt] at c2 c4
        omega
  · simp only [if_neg c1]
    have c2 : ¬ v < 0 := by rw [Int32.lt_iff_toInt_lt] at c1 ⊢; omega
    rw [if_pos (by decide), if_neg c2]
    by_cases c3 : 255 < v
    · rw [if_pos c3]
    · rw [if_neg c3]
      apply Int32.toInt_inj.mp
      rw [Int32.lt_iff_toInt_lt] at c1 c3
      omega
def cmp3 (q : Nat) (c : Int32 × Int32 × Int32) : Int32 := if q = 0 then c.1 else if q = 1 then c.2.1 else c.2.2
set_option maxRecDepth 100000 in
set_option maxHeartbeats 400000 in
theorem m_mixed (l : Launch) (G : zG) (v q : Nat) (hv : v ≤ 4) (hq : q < 3) (a b c d : Int32) : zMet l yM_mixed wM_mixed (rmk 1 0 0) zE0 G [] [.int (nI v), .int (nI q), .int a, .int b, .int c, .int d] (fun r _ => r = some (.int (cmp3 q (mxP v a b c d)))) := by
  refine zMet.of (cc := cM_mixed) (maxL := 8) (ret := (some .int)) (lv := [some (.int (nI v)), some (.int (nI q)), some (.int a), some (.int b), some (.int c), some (.int d), none, none]) (by decide) rfl (Nat.le_of_ble_eq_true rfl) rfl (fun M hl0 hR hC hS hE hret => ?_)
  rcases (show v = 0 ∨ v = 1 ∨ v = 2 ∨ v = 3 ∨ v = 4 by omega) with rfl | rfl | rfl | rfl | rfl
  · rcases (show q = 0 ∨ q = 1 ∨ q = 2 by omega) with rfl | rfl | rfl
    · skip
      refine z_iload_n dM_mixed_0 rfl ?_
      refine z_if_ne (tgt := 8) dM_mixed_1 (by decide) (fun hc9 => absurd hc9 (by decide)) (fun _ => ?_)
      refine z_iload_n dM_mixed_4 rfl ?_
      refine z_goto (tgt := 19) dM_mixed_5 (by decide) ?_
      refine z_istore dM_mixed_19 (by decide) rfl ?_
      try simp only [List.set_cons_succ, List.set_cons_zero]
      refine z_iload_n dM_mixed_21 rfl ?_
      refine z_tableIn (off := 30) (tgt := 52) dM_mixed_22 (by decide) (by decide) rfl (by decide) ?_
      refine z_iload_n dM_mixed_52 rfl ?_
      refine z_if_ne (tgt := 68) dM_mixed_53 (by decide) (fun hc9 => absurd hc9 (by decide)) (fun _ => ?_)
      refine z_ldc (v := 91881) dM_mixed_56 (bwT b_481) ?_
      refine z_iload dM_mixed_58 rfl ?_
      refine z_sipush (v := 128) dM_mixed_60 (by decide) ?_
      refine z_isub dM_mixed_63 ?_
      refine z_imul dM_mixed_64 ?_
      refine z_goto (tgt := 103) dM_mixed_65 (by decide) ?_
      refine z_istore dM_mixed_103 (by decide) rfl ?_
      try simp only [List.set_cons_succ, List.set_cons_zero]
      refine z_iload_n dM_mixed_105 rfl ?_
      refine z_iload dM_mixed_106 rfl ?_
      refine z_ldc (v := 32768) dM_mixed_108 (bwT b_484) ?_
      refine z_iadd dM_mixed_110 ?_
      refine z_bipush (v := 16) dM_mixed_111 (by decide) ?_
      refine z_ishr dM_mixed_113 ?_
      refine z_iadd dM_mixed_114 ?_
      refine z_pure (z_S hE zEok_0 (m_limit _ _ _) dM_mixed_115 (gd_S b_485 b_486 b_3 b_487) rfl qM_limit.2 ⟨rfl, rfl⟩ (by rw [hR]; decide) (by rw [hR, hC, hS]; decide) rfl (Nat.le_of_ble_eq_true rfl)) (fun r hr => ?_)
      subst hr
      simp only [zpush, zv]
      rw [← lim_eq]
      exact z_ireturn dM_mixed_118 rfl hret ⟨Nat.le_of_eq hC, Nat.le_of_eq hS⟩ rfl (by simp [cmp3, mxP, opC, clC, inC, daC, gyC, sh16])
    · skip
      refine z_iload_n dM_mixed_0 rfl ?_
      refine z_if_ne (tgt := 8) dM_mixed_1 (by decide) (fun _ => ?_) (fun hc9 => absurd hc9 (by decide))
      refine z_iload_n dM_mixed_8 rfl ?_
      refine z_iconst (v := 1) dM_mixed_9 (by decide) ?_
      refine z_icmp_ne (tgt := 17) dM_mixed_10 (by decide) (fun hc9 => absurd hc9 (by decide)) (fun _ => ?_)
      refine z_iload_n dM_mixed_13 rfl ?_
      refine z_goto (tgt := 19) dM_mixed_14 (by decide) ?_
      refine z_istore dM_mixed_19 (by decide) rfl ?_
      try simp only [List.set_cons_succ, List.set_cons_zero]
      refine z_iload_n dM_mixed_21 rfl ?_
      refine z_tableIn (off := 30) (tgt := 52) dM_mixed_22 (by decide) (by decide) rfl (by decide) ?_
      refine z_iload_n dM_mixed_52 rfl ?_
      refine z_if_ne (tgt := 68) dM_mixed_53 (by decide) (fun _ => ?_) (fun hc9 => absurd hc9 (by decide))
      refine z_iload_n dM_mixed_68 rfl ?_
      refine z_iconst (v := 1) dM_mixed_69 (by decide) ?_
      refine z_icmp_ne (tgt := 95) dM_mixed_70 (by decide) (fun hc9 => absurd hc9 (by decide)) (fun _ => ?_)
      refine z_sipush (v := -22554) dM_mixed_73 (by decide) ?_
      refine z_iload_n dM_mixed_76 rfl ?_
      refine z_sipush (v := 128) dM_mixed_77 (by decide) ?_
      refine z_isub dM_mixed_80 ?_
      refine z_imul dM_mixed_81 ?_
      refine z_ldc (v := 46802) dM_mixed_82 (bwT b_482) ?_
      refine z_iload dM_mixed_84 rfl ?_
      refine z_sipush (v := 128) dM_mixed_86 (by decide) ?_
      refine z_isub dM_mixed_89 ?_
      refine z_imul dM_mixed_90 ?_
      refine z_isub dM_mixed_91 ?_
      refine z_goto (tgt := 103) dM_mixed_92 (by decide) ?_
      refine z_istore dM_mixed_103 (by decide) rfl ?_
      try simp only [List.set_cons_succ, List.set_cons_zero]
      refine z_iload_n dM_mixed_105 rfl ?_
      refine z_iload dM_mixed_106 rfl ?_
      refine z_ldc (v := 32768) dM_mixed_108 (bwT b_484) ?_
      refine z_iadd dM_mixed_110 ?_
      refine z_bipush (v := 16) dM_mixed_111 (by decide) ?_
      refine z_ishr dM_mixed_113 ?_
      refine z_iadd dM_mixed_114 ?_
      refine z_pure (z_S hE zEok_0 (m_limit _ _ _) dM_mixed_115 (gd_S b_485 b_486 b_3 b_487) rfl qM_limit.2 ⟨rfl, rfl⟩ (by rw [hR]; decide) (by rw [hR, hC, hS]; decide) rfl (Nat.le_of_ble_eq_true rfl)) (fun r hr => ?_)
      subst hr
      simp only [zpush, zv]
      rw [← lim_eq]
      exact z_ireturn dM_mixed_118 rfl hret ⟨Nat.le_of_eq hC, Nat.le_of_eq hS⟩ rfl (by simp [cmp3, mxP, opC, clC, inC, daC, gyC, sh16])
    · skip
      refine z_iload_n dM_mixed_0 rfl ?_
      refine z_if_ne (tgt := 8) dM_mixed_1 (by decide) (fun _ => ?_) (fun hc9 => absurd hc9 (by decide))
      refine z_iload_n dM_mixed_8 rfl ?_
      refine z_iconst (v := 1) dM_mixed_9 (by decide) ?_
      refine z_icmp_ne (tgt := 17) dM_mixed_10 (by decide) (fun _ => ?_) (fun hc9 => absurd hc9 (by decide))
      refine z_iload dM_mixed_17 rfl ?_
      refine z_istore dM_mixed_19 (by decide) rfl ?_
      try simp only [List.set_cons_succ, List.set_cons_zero]
      refine z_iload_n dM_mixed_21 rfl ?_
      refine z_tableIn (off := 30) (tgt := 52) dM_mixed_22 (by decide) (by decide) rfl (by decide) ?_
      refine z_iload_n dM_mixed_52 rfl ?_
      refine z_if_ne (tgt := 68) dM_mixed_53 (by decide) (fun _ => ?_) (fun hc9 => absurd hc9 (by decide))
      refine z_iload_n dM_mixed_68 rfl ?_
      refine z_iconst (v := 1) dM_mixed_69 (by decide) ?_
      refine z_icmp_ne (tgt := 95) dM_mixed_70 (by decide) (fun _ => ?_) (fun hc9 => absurd hc9 (by decide))
      refine z_ldc (v := 116130) dM_mixed_95 (bwT b_483) ?_
      refine z_iload_n dM_mixed_97 rfl ?_
      refine z_sipush (v := 128) dM_mixed_98 (by decide) ?_
      refine z_isub dM_mixed_101 ?_
      refine z_imul dM_mixed_102 ?_
      refine z_istore dM_mixed_103 (by decide) rfl ?_
      try simp only [List.set_cons_succ, List.set_cons_zero]
      refine z_iload_n dM_mixed_105 rfl ?_
      refine z_iload dM_mixed_106 rfl ?_
      refine z_ldc (v := 32768) dM_mixed_108 (bwT b_484) ?_
      refine z_iadd dM_mixed_110 ?_
      refine z_bipush (v := 16) dM_mixed_111 (by decide) ?_
      refine z_ishr dM_mixed_113 ?_
      refine z_iadd dM_mixed_114 ?_
      refine z_pure (z_S hE zEok_0 (m_limit _ _ _) dM_mixed_115 (gd_S b_485 b_486 b_3 b_487) rfl qM_limit.2 ⟨rfl, rfl⟩ (by rw [hR]; decide) (by rw [hR, hC, hS]; decide) rfl (Nat.le_of_ble_eq_true rfl)) (fun r hr => ?_)
      subst hr
      simp only [zpush, zv]
      rw [← lim_eq]
      exact z_ireturn dM_mixed_118 rfl hret ⟨Nat.le_of_eq hC, Nat.le_of_eq hS⟩ rfl (by simp [cmp3, mxP, opC, clC, inC, daC, gyC, sh16])
  · rcases (show q = 0 ∨ q = 1 ∨ q = 2 by omega) with rfl | rfl | rfl
    · skip
      refine z_iload_n dM_mixed_0 rfl ?_
      refine z_if_ne (tgt := 8) dM_mixed_1 (by decide) (fun hc9 => absurd hc9 (by decide)) (fun _ => ?_)
      refine z_iload_n dM_mixed_4 rfl ?_
      refine z_goto (tgt := 19) dM_mixed_5 (by decide) ?_
      refine z_istore dM_mixed_19 (by decide) rfl ?_
      try simp only [List.set_cons_succ, List.set_cons_zero]
      refine z_iload_n dM_mixed_21 rfl ?_
      refine z_tableIn (off := 97) (tgt := 119) dM_mixed_22 (by decide) (by decide) rfl (by decide) ?_
      refine z_iload_n dM_mixed_119 rfl ?_
      refine z_if_ne (tgt := 133) dM_mixed_120 (by decide) (fun hc9 => absurd hc9 (by decide)) (fun _ => ?_)
      refine z_iload_n dM_mixed_123 rfl ?_
      refine z_iload_n dM_mixed_124 rfl ?_
      refine z_iload dM_mixed_125 rfl ?_
      refine z_pure (z_S hE zEok_0 (m_grey _ _ _ _ _) dM_mixed_127 (gd_S b_488 b_489 b_3 b_490) rfl qM_grey.2 ⟨rfl, rfl⟩ (by rw [hR]; decide) (by rw [hR, hC, hS]; decide) rfl (Nat.le_of_ble_eq_true rfl)) (fun r hr => ?_)
      subst hr
      simp only [zpush, zv]
      refine z_goto (tgt := 187) dM_mixed_130 (by decide) ?_
      exact z_ireturn dM_mixed_187 rfl hret ⟨Nat.le_of_eq hC, Nat.le_of_eq hS⟩ rfl (by simp [cmp3, mxP, opC, clC, inC, daC, gyC, sh16])
    · skip
      refine z_iload_n dM_mixed_0 rfl ?_
      refine z_if_ne (tgt := 8) dM_mixed_1 (by decide) (fun _ => ?_) (fun hc9 => absurd hc9 (by decide))
      refine z_iload_n dM_mixed_8 rfl ?_
      refine z_iconst (v := 1) dM_mixed_9 (by decide) ?_
      refine z_icmp_ne (tgt := 17) dM_mixed_10 (by decide) (fun hc9 => absurd hc9 (by decide)) (fun _ => ?_)
      refine z_iload_n dM_mixed_13 rfl ?_
      refine z_goto (tgt := 19) dM_mixed_14 (by decide) ?_
      refine z_istore dM_mixed_19 (by decide) rfl ?_
      try simp only [List.set_cons_succ, List.set_cons_zero]
      refine z_iload_n dM_mixed_21 rfl ?_
      refine z_tableIn (off := 97) (tgt := 119) dM_mixed_22 (by decide) (by decide) rfl (by decide) ?_
      refine z_iload_n dM_mixed_119 rfl ?_
      refine z_if_ne (tgt := 133) dM_mixed_120 (by decide) (fun _ => ?_) (fun hc9 => absurd hc9 (by decide))
      refine z_iload_n dM_mixed_133 rfl ?_
      refine z_iconst (v := 1) dM_mixed_134 (by decide) ?_
      refine z_icmp_ne (tgt := 164) dM_mixed_135 (by decide) (fun hc9 => absurd hc9 (by decide)) (fun _ => ?_)
      refine z_sipush (v := -11059) dM_mixed_138 (by decide) ?_
      refine z_iload_n dM_mixed_141 rfl ?_
      refine z_imul dM_mixed_142 ?_
      refine z_sipush (v := 21709) dM_mixed_143 (by decide) ?_
      refine z_iload_n dM_mixed_146 rfl ?_
      refine z_imul dM_mixed_147 ?_
      refine z_isub dM_mixed_148 ?_
      refine z_ldc (v := 32768) dM_mixed_149 (bwT b_484) ?_
      refine z_iload dM_mixed_151 rfl ?_
      refine z_imul dM_mixed_153 ?_
      refine z_iadd dM_mixed_154 ?_
      refine z_ldc (v := 8421375) dM_mixed_155 (bwT b_492) ?_
      refine z_iadd dM_mixed_157 ?_
      refine z_bipush (v := 16) dM_mixed_158 (by decide) ?_
      refine z_ishr dM_mixed_160 ?_
      refine z_goto (tgt := 187) dM_mixed_161 (by decide) ?_
      exact z_ireturn dM_mixed_187 rfl hret ⟨Nat.le_of_eq hC, Nat.le_of_eq hS⟩ rfl (by simp [cmp3, mxP, opC, clC, inC, daC, gyC, sh16])
    · skip
      refine z_iload_n dM_mixed_0 rfl ?_
      refine z_if_ne (tgt := 8) dM_mixed_1 (by decide) (fun _ => ?_) (fun hc9 => absurd hc9 (by decide))
      refine z_iload_n dM_mixed_8 rfl ?_
      refine z_iconst (v := 1) dM_mixed_9 (by decide) ?_
      refine z_icmp_ne (tgt := 17) dM_mixed_10 (by decide) (fun _ => ?_) (fun hc9 => absurd hc9 (by decide))
      refine z_iload dM_mixed_17 rfl ?_
      refine z_istore dM_mixed_19 (by decide) rfl ?_
      try simp only [List.set_cons_succ, List.set_cons_zero]
      refine z_iload_n dM_mixed_21 rfl ?_
      refine z_tableIn (off := 97) (tgt := 119) dM_mixed_22 (by decide) (by decide) rfl (by decide) ?_
      refine z_iload_n dM_mixed_119 rfl ?_
      refine z_if_ne (tgt := 133) dM_mixed_120 (by decide) (fun _ => ?_) (fun hc9 => absurd hc9 (by decide))
      refine z_iload_n dM_mixed_133 rfl ?_
      refine z_iconst (v := 1) dM_mixed_134 (by decide) ?_
      refine z_icmp_ne (tgt := 164) dM_mixed_135 (by decide) (fun _ => ?_) (fun hc9 => absurd hc9 (by decide))
      refine z_ldc (v := 32768) dM_mixed_164 (bwT b_484) ?_
      refine z_iload_n dM_mixed_166 rfl ?_
      refine z_imul dM_mixed_167 ?_
      refine z_sipush (v := 27439) dM_mixed_168 (by decide) ?_
      refine z_iload_n dM_mixed_171 rfl ?_
      refine z_imul dM_mixed_172 ?_
      refine z_isub dM_mixed_173 ?_
      refine z_sipush (v := 5329) dM_mixed_174 (by decide) ?_
      refine z_iload dM_mixed_177 rfl ?_
      refine z_imul dM_mixed_179 ?_
      refine z_isub dM_mixed_180 ?_
      refine z_ldc (v := 8421375) dM_mixed_181 (bwT b_492) ?_
      refine z_iadd dM_mixed_183 ?_
      refine z_bipush (v := 16) dM_mixed_184 (by decide) ?_
      refine z_ishr dM_mixed_186 ?_
      exact z_ireturn dM_mixed_187 rfl hret ⟨Nat.le_of_eq hC, Nat.le_of_eq hS⟩ rfl (by simp [cmp3, mxP, opC, clC, inC, daC, gyC, sh16])
  · rcases (show q = 0 ∨ q = 1 ∨ q = 2 by omega) with rfl | rfl | rfl
    · skip
      refine z_iload_n dM_mixed_0 rfl ?_
      refine z_if_ne (tgt := 8) dM_mixed_1 (by decide) (fun hc9 => absurd hc9 (by decide)) (fun _ => ?_)
      refine z_iload_n dM_mixed_4 rfl ?_
      refine z_goto (tgt := 19) dM_mixed_5 (by decide) ?_
      refine z_istore dM_mixed_19 (by decide) rfl ?_
      try simp only [List.set_cons_succ, List.set_cons_zero]
      refine z_iload_n dM_mixed_21 rfl ?_
      refine z_tableIn (off := 166) (tgt := 188) dM_mixed_22 (by decide) (by decide) rfl (by decide) ?_
      refine z_sipush (v := 255) dM_mixed_188 (by decide) ?_
      refine z_iload dM_mixed_191 rfl ?_
      refine z_isub dM_mixed_193 ?_
      exact z_ireturn dM_mixed_194 rfl hret ⟨Nat.le_of_eq hC, Nat.le_of_eq hS⟩ rfl (by simp [cmp3, mxP, opC, clC, inC, daC, gyC, sh16])
    · skip
      refine z_iload_n dM_mixed_0 rfl ?_
      refine z_if_ne (tgt := 8) dM_mixed_1 (by decide) (fun _ => ?_) (fun hc9 => absurd hc9 (by decide))
      refine z_iload_n dM_mixed_8 rfl ?_
      refine z_iconst (v := 1) dM_mixed_9 (by decide) ?_
      refine z_icmp_ne (tgt := 17) dM_mixed_10 (by decide) (fun hc9 => absurd hc9 (by decide)) (fun _ => ?_)
      refine z_iload_n dM_mixed_13 rfl ?_
      refine z_goto (tgt := 19) dM_mixed_14 (by decide) ?_
      refine z_istore dM_mixed_19 (by decide) rfl ?_
      try simp only [List.set_cons_succ, List.set_cons_zero]
      refine z_iload_n dM_mixed_21 rfl ?_
      refine z_tableIn (off := 166) (tgt := 188) dM_mixed_22 (by decide) (by decide) rfl (by decide) ?_
      refine z_sipush (v := 255) dM_mixed_188 (by decide) ?_
      refine z_iload dM_mixed_191 rfl ?_
      refine z_isub dM_mixed_193 ?_
      exact z_ireturn dM_mixed_194 rfl hret ⟨Nat.le_of_eq hC, Nat.le_of_eq hS⟩ rfl (by simp [cmp3, mxP, opC, clC, inC, daC, gyC, sh16])
    · skip
      refine z_iload_n dM_mixed_0 rfl ?_
      refine z_if_ne (tgt := 8) dM_mixed_1 (by decide) (fun _ => ?_) (fun hc9 => absurd hc9 (by decide))
      refine z_iload_n dM_mixed_8 rfl ?_
      refine z_iconst (v := 1) dM_mixed_9 (by decide) ?_
      refine z_icmp_ne (tgt := 17) dM_mixed_10 (by decide) (fun _ => ?_) (fun hc9 => absurd hc9 (by decide))
      refine z_iload dM_mixed_17 rfl ?_
      refine z_istore dM_mixed_19 (by decide) rfl ?_
      try simp only [List.set_cons_succ, List.set_cons_zero]
      refine z_iload_n dM_mixed_21 rfl ?_
      refine z_tableIn (off := 166) (tgt := 188) dM_mixed_22 (by decide) (by decide) rfl (by decide) ?_
      refine z_sipush (v := 255) dM_mixed_188 (by decide) ?_
      refine z_iload dM_mixed_191 rfl ?_
      refine z_isub dM_mixed_193 ?_
      exact z_ireturn dM_mixed_194 rfl hret ⟨Nat.le_of_eq hC, Nat.le_of_eq hS⟩ rfl (by simp [cmp3, mxP, opC, clC, inC, daC, gyC, sh16])
  · rcases (show q = 0 ∨ q = 1 ∨ q = 2 by omega) with rfl | rfl | rfl
    · skip
      refine z_iload_n dM_mixed_0 rfl ?_
      refine z_if_ne (tgt := 8) dM_mixed_1 (by decide) (fun hc9 => absurd hc9 (by decide)) (fun _ => ?_)
      refine z_iload_n dM_mixed_4 rfl ?_
      refine z_goto (tgt := 19) dM_mixed_5 (by decide) ?_
      refine z_istore dM_mixed_19 (by decide) rfl ?_
      try simp only [List.set_cons_succ, List.set_cons_zero]
      refine z_iload_n dM_mixed_21 rfl ?_
      refine z_tableIn (off := 173) (tgt := 195) dM_mixed_22 (by decide) (by decide) rfl (by decide) ?_
      refine z_iload dM_mixed_195 rfl ?_
      refine z_sipush (v := 255) dM_mixed_197 (by decide) ?_
      refine z_iload dM_mixed_200 rfl ?_
      refine z_isub dM_mixed_202 ?_
      refine z_imul dM_mixed_203 ?_
      refine z_bipush (v := 127) dM_mixed_204 (by decide) ?_
      refine z_iadd dM_mixed_206 ?_
      refine z_sipush (v := 255) dM_mixed_207 (by decide) ?_
      refine z_idiv dM_mixed_210 (by decide) ?_
      exact z_ireturn dM_mixed_211 rfl hret ⟨Nat.le_of_eq hC, Nat.le_of_eq hS⟩ rfl (by simp [cmp3, mxP, opC, clC, inC, daC, gyC, sh16])
    · skip
      refine z_iload_n dM_mixed_0 rfl ?_
      refine z_if_ne (tgt := 8) dM_mixed_1 (by decide) (fun _ => ?_) (fun hc9 => absurd hc9 (by decide))
      refine z_iload_n dM_mixed_8 rfl ?_
      refine z_iconst (v := 1) dM_mixed_9 (by decide) ?_
      refine z_icmp_ne (tgt := 17) dM_mixed_10 (by decide) (fun hc9 => absurd hc9 (by decide)) (fun _ => ?_)
      refine z_iload_n dM_mixed_13 rfl ?_
      refine z_goto (tgt := 19) dM_mixed_14 (by decide) ?_
      refine z_istore dM_mixed_19 (by decide) rfl ?_
      try simp only [List.set_cons_succ, List.set_cons_zero]
      refine z_iload_n dM_mixed_21 rfl ?_
      refine z_tableIn (off := 173) (tgt := 195) dM_mixed_22 (by decide) (by decide) rfl (by decide) ?_
      refine z_iload dM_mixed_195 rfl ?_
      refine z_sipush (v := 255) dM_mixed_197 (by decide) ?_
      refine z_iload dM_mixed_200 rfl ?_
      refine z_isub dM_mixed_202 ?_
      refine z_imul dM_mixed_203 ?_
      refine z_bipush (v := 127) dM_mixed_204 (by decide) ?_
      refine z_iadd dM_mixed_206 ?_
      refine z_sipush (v := 255) dM_mixed_207 (by decide) ?_
      refine z_idiv dM_mixed_210 (by decide) ?_
      exact z_ireturn dM_mixed_211 rfl hret ⟨Nat.le_of_eq hC, Nat.le_of_eq hS⟩ rfl (by simp [cmp3, mxP, opC, clC, inC, daC, gyC, sh16])
    · skip
      refine z_iload_n dM_mixed_0 rfl ?_
      refine z_if_ne (tgt := 8) dM_mixed_1 (by decide) (fun _ => ?_) (fun hc9 => absurd hc9 (by decide))
      refine z_iload_n dM_mixed_8 rfl ?_
      refine z_iconst (v := 1) dM_mixed_9 (by decide) ?_
      refine z_icmp_ne (tgt := 17) dM_mixed_10 (by decide) (fun _ => ?_) (fun hc9 => absurd hc9 (by decide))
      refine z_iload dM_mixed_17 rfl ?_
      refine z_istore dM_mixed_19 (by decide) rfl ?_
      try simp only [List.set_cons_succ, List.set_cons_zero]
      refine z_iload_n dM_mixed_21 rfl ?_
      refine z_tableIn (off := 173) (tgt := 195) dM_mixed_22 (by decide) (by decide) rfl (by decide) ?_
      refine z_iload dM_mixed_195 rfl ?_
      refine z_sipush (v := 255) dM_mixed_197 (by decide) ?_
      refine z_iload dM_mixed_200 rfl ?_
      refine z_isub dM_mixed_202 ?_
      refine z_imul dM_mixed_203 ?_
      refine z_bipush (v := 127) dM_mixed_204 (by decide) ?_
      refine z_iadd dM_mixed_206 ?_
      refine z_sipush (v := 255) dM_mixed_207 (by decide) ?_
      refine z_idiv dM_mixed_210 (by decide) ?_
      exact z_ireturn dM_mixed_211 rfl hret ⟨Nat.le_of_eq hC, Nat.le_of_eq hS⟩ rfl (by simp [cmp3, mxP, opC, clC, inC, daC, gyC, sh16])
  · rcases (show q = 0 ∨ q = 1 ∨ q = 2 by omega) with rfl | rfl | rfl
    · skip
      refine z_iload_n dM_mixed_0 rfl ?_
      refine z_if_ne (tgt := 8) dM_mixed_1 (by decide) (fun hc9 => absurd hc9 (by decide)) (fun _ => ?_)
      refine z_iload_n dM_mixed_4 rfl ?_
      refine z_goto (tgt := 19) dM_mixed_5 (by decide) ?_
      refine z_istore dM_mixed_19 (by decide) rfl ?_
      try simp only [List.set_cons_succ, List.set_cons_zero]
      refine z_iload_n dM_mixed_21 rfl ?_
      refine z_tableOut (tgt := 212) dM_mixed_22 (by decide) (by decide) ?_
      refine z_iload_n dM_mixed_212 rfl ?_
      refine z_iload_n dM_mixed_213 rfl ?_
      refine z_iload dM_mixed_214 rfl ?_
      refine z_pure (z_S hE zEok_0 (m_grey _ _ _ _ _) dM_mixed_216 (gd_S b_488 b_489 b_3 b_490) rfl qM_grey.2 ⟨rfl, rfl⟩ (by rw [hR]; decide) (by rw [hR, hC, hS]; decide) rfl (Nat.le_of_ble_eq_true rfl)) (fun r hr => ?_)
      subst hr
      simp only [zpush, zv]
      exact z_ireturn dM_mixed_219 rfl hret ⟨Nat.le_of_eq hC, Nat.le_of_eq hS⟩ rfl (by simp [cmp3, mxP, opC, clC, inC, daC, gyC, sh16])
    · skip
      refine z_iload_n dM_mixed_0 rfl ?_
      refine z_if_ne (tgt := 8) dM_mixed_1 (by decide) (fun _ => ?_) (fun hc9 => absurd hc9 (by decide))
      refine z_iload_n dM_mixed_8 rfl ?_
      refine z_iconst (v := 1) dM_mixed_9 (by decide) ?_
      refine z_icmp_ne (tgt := 17) dM_mixed_10 (by decide) (fun hc9 => absurd hc9 (by decide)) (fun _ => ?_)
      refine z_iload_n dM_mixed_13 rfl ?_
      refine z_goto (tgt := 19) dM_mixed_14 (by decide) ?_
      refine z_istore dM_mixed_19 (by decide) rfl ?_
      try simp only [List.set_cons_succ, List.set_cons_zero]
      refine z_iload_n dM_mixed_21 rfl ?_
      refine z_tableOut (tgt := 212) dM_mixed_22 (by decide) (by decide) ?_
      refine z_iload_n dM_mixed_212 rfl ?_
      refine z_iload_n dM_mixed_213 rfl ?_
      refine z_iload dM_mixed_214 rfl ?_
      refine z_pure (z_S hE zEok_0 (m_grey _ _ _ _ _) dM_mixed_216 (gd_S b_488 b_489 b_3 b_490) rfl qM_grey.2 ⟨rfl, rfl⟩ (by rw [hR]; decide) (by rw [hR, hC, hS]; decide) rfl (Nat.le_of_ble_eq_true rfl)) (fun r hr => ?_)
      subst hr
      simp only [zpush, zv]
      exact z_ireturn dM_mixed_219 rfl hret ⟨Nat.le_of_eq hC, Nat.le_of_eq hS⟩ rfl (by simp [cmp3, mxP, opC, clC, inC, daC, gyC, sh16])
    · skip
      refine z_iload_n dM_mixed_0 rfl ?_
      refine z_if_ne (tgt := 8) dM_mixed_1 (by decide) (fun _ => ?_) (fun hc9 => absurd hc9 (by decide))
      refine z_iload_n dM_mixed_8 rfl ?_
      refine z_iconst (v := 1) dM_mixed_9 (by decide) ?_
      refine z_icmp_ne (tgt := 17) dM_mixed_10 (by decide) (fun _ => ?_) (fun hc9 => absurd hc9 (by decide))
      refine z_iload dM_mixed_17 rfl ?_
      refine z_istore dM_mixed_19 (by decide) rfl ?_
      try simp only [List.set_cons_succ, List.set_cons_zero]
      refine z_iload_n dM_mixed_21 rfl ?_
      refine z_tableOut (tgt := 212) dM_mixed_22 (by decide) (by decide) ?_
      refine z_iload_n dM_mixed_212 rfl ?_
      refine z_iload_n dM_mixed_213 rfl ?_
      refine z_iload dM_mixed_214 rfl ?_
      refine z_pure (z_S hE zEok_0 (m_grey _ _ _ _ _) dM_mixed_216 (gd_S b_488 b_489 b_3 b_490) rfl qM_grey.2 ⟨rfl, rfl⟩ (by rw [hR]; decide) (by rw [hR, hC, hS]; decide) rfl (Nat.le_of_ble_eq_true rfl)) (fun r hr => ?_)
      subst hr
      simp only [zpush, zv]
      exact z_ireturn dM_mixed_219 rfl hret ⟨Nat.le_of_eq hC, Nat.le_of_eq hS⟩ rfl (by simp [cmp3, mxP, opC, clC, inC, daC, gyC, sh16])
def uS (S : Nat → Int32) (p : Nat) (c : Int32 × Int32 × Int32) : Nat → Int32 := upd (upd (upd S (1024 * 0 + p) c.1) (1024 * 1 + p) c.2.1) (1024 * 2 + p) c.2.2
def mcl (v : Nat) (S : Nat → Int32) (p : Nat) : Int32 × Int32 × Int32 := mxP v (S p) (S (1024 + p)) (S (2048 + p)) (S (3072 + p))
def maX (v y : Nat) (S : Nat → Int32) : Nat → (Nat → Int32)
  | 0 => S
  | x + 1 => uS (maX v y S x) (32 * y + x) (mcl v (maX v y S x) (32 * y + x))
def maY (v w : Nat) (S : Nat → Int32) : Nat → (Nat → Int32)
  | 0 => S
  | y + 1 => maX v y (maY v w S y) w
theorem z_kc (c p : Nat) : nI c + nI p = nI (c + p) := nI_add c p
section
variable {M : zM} {D : va_G} {ca : Nat → ClassId} {ad : Nat → Nat} {th : Int32} {w h : Nat → Nat} {S O : Nat → Int32} {ow oh : Int32} {k : Nat} {v : Nat}
set_option maxRecDepth 100000 in
set_option maxHeartbeats 400000 in
theorem n_mixAll_x (hwh : okW w h) (hv : v ≤ 4) (hR : zroom M = rmk 2 0 0) (hC : zcells M = 0) (hS : zslots M = 0) (hE : zEn M zE0) {y : Nat} (hy : y < h 0) (kx : ∀ o4 o5 o6 o7 o8 o9, Zj M (gG D ca ad) cM_mixAll 10 RM wM_mixAll none (mwn ca th w h (maX v y S (w 0)) O ow oh) [some (.ref 0), some (.int (nI v)), some (.int (nI y)), some (.int (nI (w 0))), o4, o5, o6, o7, o8, o9] [] 129) :
    ∀ n x, x + n = w 0 → ∀ o4 o5 o6 o7 o8 o9, Zj M (gG D ca ad) cM_mixAll 10 RM wM_mixAll none (mwn ca th w h (maX v y S x) O ow oh) [some (.ref 0), some (.int (nI v)), some (.int (nI y)), some (.int (nI x)), o4, o5, o6, o7, o8, o9] [] 14 := by
  obtain ⟨a1, a2, b1, b2⟩ := hwh 0 (by omega)
  intro n
  induction n with
  | zero =>
    intro x hx o4 o5 o6 o7 o8 o9
    obtain rfl : x = w 0 := by omega
    refine z_iload_n dM_mixAll_14 rfl ?_
    refine z_aload_n dM_mixAll_15 rfl ?_
    refine z_get (C := RM) (T := TM) (N := 7) (ref := "ToneMixerModel") 1 dM_mixAll_16 rfl rfl rfl (by decide) (fun w h => bwT (hbM w h)) (bwT b_387) rfl ?_
    refine z_iconst (v := 0) dM_mixAll_19 (by decide) ?_
    refine z_ialdN (t0 := 0) (k := 0) dM_mixAll_20 rfl rfl (rfl) (by decide) (by decide) ?_
    exact z_icmp_ge (tgt := 129) dM_mixAll_21 (by decide) (fun _ => kx _ _ _ _ _ _) (fun hc => absurd (nI_le (Nat.le_refl _) (by omega)) hc)
  | succ n ih =>
    intro x hx o4 o5 o6 o7 o8 o9
    refine z_iload_n dM_mixAll_14 rfl ?_
    refine z_aload_n dM_mixAll_15 rfl ?_
    refine z_get (C := RM) (T := TM) (N := 7) (ref := "ToneMixerModel") 1 dM_mixAll_16 rfl rfl rfl (by decide) (fun w h => bwT (hbM w h)) (bwT b_387) rfl ?_
    refine z_iconst (v := 0) dM_mixAll_19 (by decide) ?_
    refine z_ialdN (t0 := 0) (k := 0) dM_mixAll_20 rfl rfl (rfl) (by decide) (by decide) ?_
    refine z_icmp_ge (tgt := 129) dM_mixAll_21 (by decide) (fun hc => absurd hc (nI_ge (by omega) (by omega))) (fun _ => ?_)
    refine z_bipush (v := 32) dM_mixAll_24 (by decide) ?_
    refine z_iload_n dM_mixAll_26 rfl ?_
    refine z_imul dM_mixAll_27 ?_
    refine z_iload_n dM_mixAll_28 rfl ?_
    refine z_iadd dM_mixAll_29 ?_
    rw [show (32 : Int32) * nI y + nI x = nI (32 * y + x) by rw [za, zm]; rfl]
    refine z_istore dM_mixAll_30 (by decide) rfl ?_
    try simp only [List.set_cons_succ, List.set_cons_zero]
    refine z_aload_n dM_mixAll_32 rfl ?_
    refine z_get (C := RM) (T := TM) (N := 7) (ref := "ToneMixerModel") 3 dM_mixAll_33 rfl rfl rfl (by decide) (fun w h => bwT (hbM w h)) (bwT b_389) rfl ?_
    refine z_iload dM_mixAll_36 rfl ?_
    refine z_ialdN (t0 := 0) (k := (32 * y + x)) dM_mixAll_38 rfl rfl (rfl) (by omega) (by decide) ?_
    refine z_istore dM_mixAll_39 (by decide) rfl ?_
    try simp only [List.set_cons_succ, List.set_cons_zero]
    refine z_aload_n dM_mixAll_41 rfl ?_
    refine z_get (C := RM) (T := TM) (N := 7) (ref := "ToneMixerModel") 3 dM_mixAll_42 rfl rfl rfl (by decide) (fun w h => bwT (hbM w h)) (bwT b_389) rfl ?_
    refine z_sipush (v := 1024) dM_mixAll_45 (by decide) ?_
    refine z_iload dM_mixAll_48 rfl ?_
    refine z_iadd dM_mixAll_50 ?_
    refine z_ialdN (t0 := 0) (k := 1024 + (32 * y + x)) dM_mixAll_51 rfl rfl (z_kc 1024 _) (by omega) (by decide) ?_
    refine z_istore dM_mixAll_52 (by decide) rfl ?_
    try simp only [List.set_cons_succ, List.set_cons_zero]
    refine z_aload_n dM_mixAll_54 rfl ?_
    refine z_get (C := RM) (T := TM) (N := 7) (ref := "ToneMixerModel") 3 dM_mixAll_55 rfl rfl rfl (by decide) (fun w h => bwT (hbM w h)) (bwT b_389) rfl ?_
    refine z_sipush (v := 2048) dM_mixAll_58 (by decide) ?_
    refine z_iload dM_mixAll_61 rfl ?_
    refine z_iadd dM_mixAll_63 ?_
    refine z_ialdN (t0 := 0) (k := 2048 + (32 * y + x)) dM_mixAll_64 rfl rfl (z_kc 2048 _) (by omega) (by decide) ?_
    refine z_istore dM_mixAll_65 (by decide) rfl ?_
    try simp only [List.set_cons_succ, List.set_cons_zero]
    refine z_aload_n dM_mixAll_67 rfl ?_
    refine z_get (C := RM) (T := TM) (N := 7) (ref := "ToneMixerModel") 3 dM_mixAll_68 rfl rfl rfl (by decide) (fun w h => bwT (hbM w h)) (bwT b_389) rfl ?_
    refine z_sipush (v := 3072) dM_mixAll_71 (by decide) ?_
    refine z_iload dM_mixAll_74 rfl ?_
    refine z_iadd dM_mixAll_76 ?_
    refine z_ialdN (t0 := 0) (k := 3072 + (32 * y + x)) dM_mixAll_77 rfl rfl (z_kc 3072 _) (by omega) (by decide) ?_
    refine z_istore dM_mixAll_78 (by decide) rfl ?_
    try simp only [List.set_cons_succ, List.set_cons_zero]
    refine z_iconst (v := 0) dM_mixAll_80 (by decide) ?_
    refine z_istore dM_mixAll_81 (by decide) rfl ?_
    try simp only [List.set_cons_succ, List.set_cons_zero]
    refine z_iload dM_mixAll_83 rfl ?_
    refine z_iconst (v := 3) dM_mixAll_85 (by decide) ?_
    refine z_icmp_ge (tgt := 123) dM_mixAll_86 (by decide) (fun hc9 => absurd hc9 (by decide)) (fun _ => ?_)
    refine z_aload_n dM_mixAll_89 rfl ?_
    refine z_get (C := RM) (T := TM) (N := 7) (ref := "ToneMixerModel") 3 dM_mixAll_90 rfl rfl rfl (by decide) (fun w h => bwT (hbM w h)) (bwT b_389) rfl ?_
    refine z_sipush (v := 1024) dM_mixAll_93 (by decide) ?_
    refine z_iload dM_mixAll_96 rfl ?_
    refine z_imul dM_mixAll_98 ?_
    refine z_iload dM_mixAll_99 rfl ?_
    refine z_iadd dM_mixAll_101 ?_
    refine z_iload_n dM_mixAll_102 rfl ?_
    refine z_iload dM_mixAll_103 rfl ?_
    refine z_iload dM_mixAll_105 rfl ?_
    refine z_iload dM_mixAll_107 rfl ?_
    refine z_iload dM_mixAll_109 rfl ?_
    refine z_iload dM_mixAll_111 rfl ?_
    rw [show (1024 : Int32) * 0 + nI (32 * y + x) = nI (1024 * 0 + (32 * y + x)) from z_1k 0 _]
    refine z_pure (z_S hE zEok_0 (m_mixed _ _ v 0 hv (by decide) _ _ _ _) dM_mixAll_113 (gd_S b_478 b_479 b_3 b_480) rfl qM_mixed.2 ⟨rfl, rfl⟩ (by rw [hR]; decide) (by rw [hR, hC, hS]; decide) rfl (Nat.le_of_ble_eq_true rfl)) (fun r hr => ?_)
    subst hr
    simp only [zpush, zv]
    refine z_iastN (t0 := 0) (k := 1024 * 0 + (32 * y + x)) dM_mixAll_116 rfl rfl (rfl) (by omega) (by decide) ?_
    try simp only [List.set_cons_succ, List.set_cons_zero]
    refine z_iinc1 dM_mixAll_117 (by decide) rfl rfl ?_
    try simp only [List.set_cons_succ, List.set_cons_zero]
    refine z_goto (tgt := 83) dM_mixAll_120 (by decide) ?_
    rw [show (0 : Int32) + 1 = 1 from rfl]
    refine z_iload dM_mixAll_83 rfl ?_
    refine z_iconst (v := 3) dM_mixAll_85 (by decide) ?_
    refine z_icmp_ge (tgt := 123) dM_mixAll_86 (by decide) (fun hc9 => absurd hc9 (by decide)) (fun _ => ?_)
    refine z_aload_n dM_mixAll_89 rfl ?_
    refine z_get (C := RM) (T := TM) (N := 7) (ref := "ToneMixerModel") 3 dM_mixAll_90 rfl rfl rfl (by decide) (fun w h => bwT (hbM w h)) (bwT b_389) rfl ?_
    refine z_sipush (v := 1024) dM_mixAll_93 (by decide) ?_
    refine z_iload dM_mixAll_96 rfl ?_
    refine z_imul dM_mixAll_98 ?_
    refine z_iload dM_mixAll_99 rfl ?_
    refine z_iadd dM_mixAll_101 ?_
    refine z_iload_n dM_mixAll_102 rfl ?_
    refine z_iload dM_mixAll_103 rfl ?_
    refine z_iload dM_mixAll_105 rfl ?_
    refine z_iload dM_mixAll_107 rfl ?_
    refine z_iload dM_mixAll_109 rfl ?_
    refine z_iload dM_mixAll_111 rfl ?_
    rw [show (1024 : Int32) * 1 + nI (32 * y + x) = nI (1024 * 1 + (32 * y + x)) from z_1k 1 _]
    refine z_pure (z_S hE zEok_0 (m_mixed _ _ v 1 hv (by decide) _ _ _ _) dM_mixAll_113 (gd_S b_478 b_479 b_3 b_480) rfl qM_mixed.2 ⟨rfl, rfl⟩ (by rw [hR]; decide) (by rw [hR, hC, hS]; decide) rfl (Nat.le_of_ble_eq_true rfl)) (fun r hr => ?_)
    subst hr
    simp only [zpush, zv]
    refine z_iastN (t0 := 0) (k := 1024 * 1 + (32 * y + x)) dM_mixAll_116 rfl rfl (rfl) (by omega) (by decide) ?_
    try simp only [List.set_cons_succ, List.set_cons_zero]
    refine z_iinc1 dM_mixAll_117 (by decide) rfl rfl ?_
    try simp only [List.set_cons_succ, List.set_cons_zero]
    refine z_goto (tgt := 83) dM_mixAll_120 (by decide) ?_
    rw [show (1 : Int32) + 1 = 2 from rfl]
    refine z_iload dM_mixAll_83 rfl ?_
    refine z_iconst (v := 3) dM_mixAll_85 (by decide) ?_
    refine z_icmp_ge (tgt := 123) dM_mixAll_86 (by decide) (fun hc9 => absurd hc9 (by decide)) (fun _ => ?_)
    refine z_aload_n dM_mixAll_89 rfl ?_
    refine z_get (C := RM) (T := TM) (N := 7) (ref := "ToneMixerModel") 3 dM_mixAll_90 rfl rfl rfl (by decide) (fun w h => bwT (hbM w h)) (bwT b_389) rfl ?_
    refine z_sipush (v := 1024) dM_mixAll_93 (by decide) ?_
    refine z_iload dM_mixAll_96 rfl ?_
    refine z_imul dM_mixAll_98 ?_
    refine z_iload dM_mixAll_99 rfl ?_
    refine z_iadd dM_mixAll_101 ?_
    refine z_iload_n dM_mixAll_102 rfl ?_
    refine z_iload dM_mixAll_103 rfl ?_
    refine z_iload dM_mixAll_105 rfl ?_
    refine z_iload dM_mixAll_107 rfl ?_
    refine z_iload dM_mixAll_109 rfl ?_
    refine z_iload dM_mixAll_111 rfl ?_
    rw [show (1024 : Int32) * 2 + nI (32 * y + x) = nI (1024 * 2 + (32 * y + x)) from z_1k 2 _]
    refine z_pure (z_S hE zEok_0 (m_mixed _ _ v 2 hv (by decide) _ _ _ _) dM_mixAll_113 (gd_S b_478 b_479 b_3 b_480) rfl qM_mixed.2 ⟨rfl, rfl⟩ (by rw [hR]; decide) (by rw [hR, hC, hS]; decide) rfl (Nat.le_of_ble_eq_true rfl)) (fun r hr => ?_)
    subst hr
    simp only [zpush, zv]
    refine z_iastN (t0 := 0) (k := 1024 * 2 + (32 * y + x)) dM_mixAll_116 rfl rfl (rfl) (by omega) (by decide) ?_
    try simp only [List.set_cons_succ, List.set_cons_zero]
    refine z_iinc1 dM_mixAll_117 (by decide) rfl rfl ?_
    try simp only [List.set_cons_succ, List.set_cons_zero]
    refine z_goto (tgt := 83) dM_mixAll_120 (by decide) ?_
    rw [show (2 : Int32) + 1 = 3 from rfl]
    refine z_iload dM_mixAll_83 rfl ?_
    refine z_iconst (v := 3) dM_mixAll_85 (by decide) ?_
    refine z_icmp_ge (tgt := 123) dM_mixAll_86 (by decide) (fun _ => ?_) (fun hc9 => absurd hc9 (by decide))
    refine z_iinc1 dM_mixAll_123 (by decide) rfl rfl ?_
    try simp only [List.set_cons_succ, List.set_cons_zero]
    refine z_goto (tgt := 14) dM_mixAll_126 (by decide) ?_
    rw [nI_1]
    exact ih (x + 1) (by omega) _ _ _ _ _ _
set_option maxRecDepth 100000 in
set_option maxHeartbeats 400000 in
theorem n_mixAll_y (hwh : okW w h) (hv : v ≤ 4) (hR : zroom M = rmk 2 0 0) (hC : zcells M = 0) (hS : zslots M = 0) (hE : zEn M zE0) (kx : ∀ o3 o4 o5 o6 o7 o8 o9, Zj M (gG D ca ad) cM_mixAll 10 RM wM_mixAll none (mwn ca th w h (maY v (w 0) S (h 0)) O ow oh) [some (.ref 0), some (.int (nI v)), some (.int (nI (h 0))), o3, o4, o5, o6, o7, o8, o9] [] 135) :
    ∀ n y, y + n = h 0 → ∀ o3 o4 o5 o6 o7 o8 o9, Zj M (gG D ca ad) cM_mixAll 10 RM wM_mixAll none (mwn ca th w h (maY v (w 0) S y) O ow oh) [some (.ref 0), some (.int (nI v)), some (.int (nI y)), o3, o4, o5, o6, o7, o8, o9] [] 2 := by
  obtain ⟨a1, a2, b1, b2⟩ := hwh 0 (by omega)
  intro n
  induction n with
  | zero =>
    intro y hy o3 o4 o5 o6 o7 o8 o9
    obtain rfl : y = h 0 := by omega
    refine z_iload_n dM_mixAll_2 rfl ?_
    refine z_aload_n dM_mixAll_3 rfl ?_
    refine z_get (C := RM) (T := TM) (N := 7) (ref := "ToneMixerModel") 2 dM_mixAll_4 rfl rfl rfl (by decide) (fun w h => bwT (hbM w h)) (bwT b_388) rfl ?_
    refine z_iconst (v := 0) dM_mixAll_7 (by decide) ?_
    refine z_ialdN (t0 := 0) (k := 0) dM_mixAll_8 rfl rfl (rfl) (by decide) (by decide) ?_
    exact z_icmp_ge (tgt := 135) dM_mixAll_9 (by decide) (fun _ => kx _ _ _ _ _ _ _) (fun hc => absurd (nI_le (Nat.le_refl _) (by omega)) hc)
  | succ n ih =>
    intro y hy o3 o4 o5 o6 o7 o8 o9
    refine z_iload_n dM_mixAll_2 rfl ?_
    refine z_aload_n dM_mixAll_3 rfl ?_
    refine z_get (C := RM) (T := TM) (N := 7) (ref := "ToneMixerModel") 2 dM_mixAll_4 rfl rfl rfl (by decide) (fun w h => bwT (hbM w h)) (bwT b_388) rfl ?_
    refine z_iconst (v := 0) dM_mixAll_7 (by decide) ?_
    refine z_ialdN (t0 := 0) (k := 0) dM_mixAll_8 rfl rfl (rfl) (by decide) (by decide) ?_
    refine z_icmp_ge (tgt := 135) dM_mixAll_9 (by decide) (fun hc => absurd hc (nI_ge (by omega) (by omega))) (fun _ => ?_)
    refine z_iconst (v := 0) dM_mixAll_12 (by decide) ?_
    refine z_istore_n dM_mixAll_13 (by decide) rfl ?_
    try simp only [List.set_cons_succ, List.set_cons_zero]
    refine n_mixAll_x (S := maY v (w 0) S y) hwh hv hR hC hS hE (y := y) (by omega) (fun o4 o5 o6 o7 o8 o9 => ?_) (w 0) 0 (by omega) _ _ _ _ _ _
    refine z_iinc1 dM_mixAll_129 (by decide) rfl rfl ?_
    try simp only [List.set_cons_succ, List.set_cons_zero]
    refine z_goto (tgt := 2) dM_mixAll_132 (by decide) ?_
    rw [nI_1]
    exact ih (y + 1) (by omega) _ _ _ _ _ _ _
end
set_option maxRecDepth 100000 in
set_option maxHeartbeats 400000 in
theorem m_mixAll (l : Launch) (D : va_G) (ca : Nat → ClassId) (ad : Nat → Nat) (th : Int32) (w h : Nat → Nat) (S O : Nat → Int32) (ow oh : Int32) (hwh : okW w h) (v : Nat) (hv : v ≤ 4) : zMet l yM_mixAll wM_mixAll (rmk 2 0 0) zE0 (gG D ca ad) (mwn ca th w h S O ow oh) [.ref 0, .int (nI v)] (fun r aw => r = none ∧ aw = (mwn ca th w h (maY v (w 0) S (h 0)) O ow oh)) := by
  refine zMet.of (cc := cM_mixAll) (maxL := 10) (ret := none) (lv := [some (.ref 0), some (.int (nI v)), none, none, none, none, none, none, none, none]) (by decide) rfl (Nat.le_of_ble_eq_true rfl) rfl (fun M hl0 hR hC hS hE hret => ?_)
  refine z_iconst (v := 0) dM_mixAll_0 (by decide) ?_
  refine z_istore_n dM_mixAll_1 (by decide) rfl ?_
  try simp only [List.set_cons_succ, List.set_cons_zero]
  refine n_mixAll_y hwh hv hR hC hS hE (fun o3 o4 o5 o6 o7 o8 o9 => ?_) (h 0) 0 (by omega) _ _ _ _ _ _ _
  exact z_return dM_mixAll_135 hret ⟨Nat.le_of_eq hC, Nat.le_of_eq hS⟩ rfl ⟨rfl, rfl⟩
def mmA (v w h : Nat) (S : Nat → Int32) : Nat → Int32 := if v = 5 then maY 2 w (maY 0 w S h) h else if v = 6 then maY 1 w (maY 2 w S h) h else maY v w S h
set_option maxRecDepth 100000 in
set_option maxHeartbeats 400000 in
theorem m_mix (l : Launch) (D : va_G) (ca : Nat → ClassId) (ad : Nat → Nat) (th : Int32) (w h : Nat → Nat) (S O : Nat → Int32) (ow oh : Int32) (hwh : okW w h) (n : Int32) : zMet l yM_mix wM_mix (rmk 3 0 0) zE0 (gG D ca ad) (mwn ca th w h S O ow oh) [.ref 0, .int n] (fun r aw => (mix0 n w h ∧ r = some (.int 0) ∧ aw = (mwn ca 0 w h S O ow oh)) ∨ ∃ v : Nat, v ≤ 6 ∧ n = nI v ∧ sameS (if n = 3 then 4 else 3) w h ∧ r = some (.int 1) ∧ aw = (mwn ca 0 w h (mmA v (w 0) (h 0) S) O ow oh)) := by
  refine zMet.of (cc := cM_mix) (maxL := 2) (ret := (some .boolean)) (lv := [some (.ref 0), some (.int n)]) (by decide) rfl (Nat.le_of_ble_eq_true rfl) rfl (fun M hl0 hR hC hS hE hret => ?_)
  have k47 : mix0 n w h → Zj M (gG D ca ad) cM_mix 2 RM wM_mix (some .boolean) (mwn ca 0 w h S O ow oh) [some (.ref 0), some (.int n)] [] 47 := fun hb => by
    refine z_iconst (v := 0) dM_mix_47 (by decide) ?_
    exact z_ireturn dM_mix_48 rfl hret ⟨Nat.le_of_eq hC, Nat.le_of_eq hS⟩ rfl (Or.inl ⟨hb, rfl, rfl⟩)
  refine z_aload_n dM_mix_0 rfl ?_
  refine z_iconst (v := 0) dM_mix_1 (by decide) ?_
  refine z_put (C := RM) (T := TM) (N := 7) (ref := "ToneMixerModel") (ty := .int) 0 tyM dM_mix_2 rfl rfl (by decide) (fun w h => bwT (hbM w h)) (bwT b_386) rfl tyM_ok nmM rfl (by decide +kernel) (fun _ => ⟨rfl, rfl⟩) (Nat.le_of_ble_eq_true rfl) ?_
  try simp only [List.set_cons_succ, List.set_cons_zero]
  refine z_iload_n dM_mix_5 rfl ?_
  refine z_iconst (v := 0) dM_mix_6 (by decide) ?_
  refine z_bipush (v := 6) dM_mix_7 (by decide) ?_
  refine z_pure (z_S hE zEok_0 (m_in _ _ _ _ _) dM_mix_9 (gd_S b_419 b_420 b_3 b_421) rfl qM_in.2 ⟨rfl, rfl⟩ (by rw [hR]; decide) (by rw [hR, hC, hS]; decide) rfl (Nat.le_of_ble_eq_true rfl)) (fun r hr => ?_)
  subst hr
  simp only [zpush, zv]
  rcases inH 6 (by decide) 6 (by decide) n with ⟨e2, hb⟩ | ⟨e2, v, hv, rfl⟩
  · rw [e2]
    refine z_if_eq (tgt := 47) dM_mix_12 (by decide) (fun _ => ?_) (fun hc9 => absurd hc9 (by decide))
    exact k47 (hb.elim Or.inl (fun q => Or.inr (Or.inl q)))
  rw [e2]
  clear e2
  have c34 : 3 ≤ (if nI v = 3 then 4 else 3) := by split <;> omega
  refine z_if_eq (tgt := 47) dM_mix_12 (by decide) (fun hc9 => absurd hc9 (by decide)) (fun _ => ?_)
  refine z_aload_n dM_mix_15 rfl ?_
  refine z_iconst (v := 0) dM_mix_16 (by decide) ?_
  refine z_iconst (v := 1) dM_mix_17 (by decide) ?_
  refine z_same (z_V (C := RM) (b := 0) hE zEok_0 (m_isSame _ D ca ad 0 w h S O ow oh hwh 0 1 (by decide) (by decide)) dM_mix_18 (gd_V b_470 b_472 bs_20 b_3 b_473) rfl qM_isSame ⟨rfl, rfl⟩ (by rw [hR]; decide) (by rw [hR, hC, hS]; decide) rfl (Nat.le_of_ble_eq_true rfl) rfl rfl) (fun r aw1 hlen hr => ?_)
  obtain ⟨rfl, ⟨s1, s2, rfl⟩ | ⟨hn, rfl⟩⟩ := hr
  rotate_left
  · simp only [zpush, zv]
    refine z_if_eq (tgt := 47) dM_mix_21 (by decide) (fun _ => ?_) (fun hc9 => absurd hc9 (by decide))
    exact k47 (Or.inr (Or.inr (fun q => hn ⟨((q 1 (by omega) (by omega)).1).symm, ((q 1 (by omega) (by omega)).2).symm⟩)))
  simp only [zpush, zv]
  refine z_if_eq (tgt := 47) dM_mix_21 (by decide) (fun hc9 => absurd hc9 (by decide)) (fun _ => ?_)
  refine z_aload_n dM_mix_24 rfl ?_
  refine z_iconst (v := 0) dM_mix_25 (by decide) ?_
  refine z_iconst (v := 2) dM_mix_26 (by decide) ?_
  refine z_same (z_V (C := RM) (b := 0) hE zEok_0 (m_isSame _ D ca ad 0 w h S O ow oh hwh 0 2 (by decide) (by decide)) dM_mix_27 (gd_V b_470 b_472 bs_20 b_3 b_473) rfl qM_isSame ⟨rfl, rfl⟩ (by rw [hR]; decide) (by rw [hR, hC, hS]; decide) rfl (Nat.le_of_ble_eq_true rfl) rfl rfl) (fun r aw1 hlen hr => ?_)
  obtain ⟨rfl, ⟨s3, s4, rfl⟩ | ⟨hn, rfl⟩⟩ := hr
  rotate_left
  · simp only [zpush, zv]
    refine z_if_eq (tgt := 47) dM_mix_30 (by decide) (fun _ => ?_) (fun hc9 => absurd hc9 (by decide))
    exact k47 (Or.inr (Or.inr (fun q => hn ⟨((q 2 (by omega) (by omega)).1).symm, ((q 2 (by omega) (by omega)).2).symm⟩)))
  simp only [zpush, zv]
  refine z_if_eq (tgt := 47) dM_mix_30 (by decide) (fun hc9 => absurd hc9 (by decide)) (fun _ => ?_)
  refine z_iload_n dM_mix_33 rfl ?_
  refine z_iconst (v := 3) dM_mix_34 (by decide) ?_
  have k49 : sameS (if nI v = 3 then 4 else 3) w h → Zj M (gG D ca ad) cM_mix 2 RM wM_mix (some .boolean) (mwn ca 0 w h S O ow oh) [some (.ref 0), some (.int (nI v))] [] 49 := fun hs => by
    rcases (show v = 5 ∨ v = 6 ∨ (v ≤ 4) by omega) with rfl | rfl | hv4
    · skip
      refine z_iload_n dM_mix_49 rfl ?_
      refine z_iconst (v := 5) dM_mix_50 (by decide) ?_
      refine z_icmp_ne (tgt := 67) dM_mix_51 (by decide) (fun hc9 => absurd hc9 (by decide)) (fun _ => ?_)
      refine z_aload_n dM_mix_54 rfl ?_
      refine z_iconst (v := 0) dM_mix_55 (by decide) ?_
      refine z_same (z_V (C := RM) (b := 0) hE zEok_0 (m_mixAll _ D ca ad 0 w h S O ow oh hwh 0 (by decide)) dM_mix_56 (gd_V b_474 b_476 bs_21 b_3 b_477) rfl qM_mixAll ⟨rfl, rfl⟩ (by rw [hR]; decide) (by rw [hR, hC, hS]; decide) rfl (Nat.le_of_ble_eq_true rfl) rfl rfl) (fun r aw1 hlen hr => ?_)
      obtain ⟨rfl, rfl⟩ := hr
      simp only [zpush]
      refine z_aload_n dM_mix_59 rfl ?_
      refine z_iconst (v := 2) dM_mix_60 (by decide) ?_
      refine z_same (z_V (C := RM) (b := 0) hE zEok_0 (m_mixAll _ D ca ad 0 w h (maY 0 (w 0) S (h 0)) O ow oh hwh 2 (by decide)) dM_mix_61 (gd_V b_474 b_476 bs_21 b_3 b_477) rfl qM_mixAll ⟨rfl, rfl⟩ (by rw [hR]; decide) (by rw [hR, hC, hS]; decide) rfl (Nat.le_of_ble_eq_true rfl) rfl rfl) (fun r aw1 hlen hr => ?_)
      obtain ⟨rfl, rfl⟩ := hr
      simp only [zpush]
      refine z_goto (tgt := 91) dM_mix_64 (by decide) ?_
      refine z_iconst (v := 1) dM_mix_91 (by decide) ?_
      exact z_ireturn dM_mix_92 rfl hret ⟨Nat.le_of_eq hC, Nat.le_of_eq hS⟩ rfl (Or.inr ⟨5, by decide, rfl, hs, rfl, rfl⟩)
    · skip
      refine z_iload_n dM_mix_49 rfl ?_
      refine z_iconst (v := 5) dM_mix_50 (by decide) ?_
      refine z_icmp_ne (tgt := 67) dM_mix_51 (by decide) (fun _ => ?_) (fun hc9 => absurd hc9 (by decide))
      refine z_iload_n dM_mix_67 rfl ?_
      refine z_bipush (v := 6) dM_mix_68 (by decide) ?_
      refine z_icmp_ne (tgt := 86) dM_mix_70 (by decide) (fun hc9 => absurd hc9 (by decide)) (fun _ => ?_)
      refine z_aload_n dM_mix_73 rfl ?_
      refine z_iconst (v := 2) dM_mix_74 (by decide) ?_
      refine z_same (z_V (C := RM) (b := 0) hE zEok_0 (m_mixAll _ D ca ad 0 w h S O ow oh hwh 2 (by decide)) dM_mix_75 (gd_V b_474 b_476 bs_21 b_3 b_477) rfl qM_mixAll ⟨rfl, rfl⟩ (by rw [hR]; decide) (by rw [hR, hC, hS]; decide) rfl (Nat.le_of_ble_eq_true rfl) rfl rfl) (fun r aw1 hlen hr => ?_)
      obtain ⟨rfl, rfl⟩ := hr
      simp only [zpush]
      refine z_aload_n dM_mix_78 rfl ?_
      refine z_iconst (v := 1) dM_mix_79 (by decide) ?_
      refine z_same (z_V (C := RM) (b := 0) hE zEok_0 (m_mixAll _ D ca ad 0 w h (maY 2 (w 0) S (h 0)) O ow oh hwh 1 (by decide)) dM_mix_80 (gd_V b_474 b_476 bs_21 b_3 b_477) rfl qM_mixAll ⟨rfl, rfl⟩ (by rw [hR]; decide) (by rw [hR, hC, hS]; decide) rfl (Nat.le_of_ble_eq_true rfl) rfl rfl) (fun r aw1 hlen hr => ?_)
      obtain ⟨rfl, rfl⟩ := hr
      simp only [zpush]
      refine z_goto (tgt := 91) dM_mix_83 (by decide) ?_
      refine z_iconst (v := 1) dM_mix_91 (by decide) ?_
      exact z_ireturn dM_mix_92 rfl hret ⟨Nat.le_of_eq hC, Nat.le_of_eq hS⟩ rfl (Or.inr ⟨6, by decide, rfl, hs, rfl, rfl⟩)
    · have d5 : ¬ nI v = 5 := fun q => by have := (nI_eq (a := v) (b := 5) (by omega) (by decide)).mp q; omega
      have d6 : ¬ nI v = 6 := fun q => by have := (nI_eq (a := v) (b := 6) (by omega) (by decide)).mp q; omega
      refine z_iload_n dM_mix_49 rfl ?_
      refine z_iconst (v := 5) dM_mix_50 (by decide) ?_
      refine z_icmp_ne (tgt := 67) dM_mix_51 (by decide) (fun _ => ?_) (fun hc9 => absurd hc9 (d5))
      refine z_iload_n dM_mix_67 rfl ?_
      refine z_bipush (v := 6) dM_mix_68 (by decide) ?_
      refine z_icmp_ne (tgt := 86) dM_mix_70 (by decide) (fun _ => ?_) (fun hc9 => absurd hc9 (d6))
      refine z_aload_n dM_mix_86 rfl ?_
      refine z_iload_n dM_mix_87 rfl ?_
      refine z_same (z_V (C := RM) (b := 0) hE zEok_0 (m_mixAll _ D ca ad 0 w h S O ow oh hwh v hv4) dM_mix_88 (gd_V b_474 b_476 bs_21 b_3 b_477) rfl qM_mixAll ⟨rfl, rfl⟩ (by rw [hR]; decide) (by rw [hR, hC, hS]; decide) rfl (Nat.le_of_ble_eq_true rfl) rfl rfl) (fun r aw1 hlen hr => ?_)
      obtain ⟨rfl, rfl⟩ := hr
      simp only [zpush]
      refine z_iconst (v := 1) dM_mix_91 (by decide) ?_
      exact z_ireturn dM_mix_92 rfl hret ⟨Nat.le_of_eq hC, Nat.le_of_eq hS⟩ rfl (Or.inr ⟨v, hv, rfl, hs, rfl, by rw [mmA, if_neg (by omega), if_neg (by omega)]⟩)
  have sm3 : ∀ c : Nat, (c = 3 ∨ (c = 4 ∧ w 3 = w 0 ∧ h 3 = h 0)) → sameS c w h := by
    intro c hc i h1 h2
    rcases (show i = 1 ∨ i = 2 ∨ (i = 3 ∧ c = 4) by omega) with rfl | rfl | ⟨rfl, rfl⟩
    · exact ⟨s1.symm, s2.symm⟩
    · exact ⟨s3.symm, s4.symm⟩
    · rcases hc with q | ⟨-, q⟩
      · omega
      · exact q
  refine z_icmp_ne (tgt := 49) dM_mix_35 (by decide) (fun c => ?_) (fun c => ?_)
  · exact k49 (by rw [if_neg c]; exact sm3 3 (Or.inl rfl))
  · rw [if_pos c] at k49
    refine z_aload_n dM_mix_38 rfl ?_
    refine z_iconst (v := 0) dM_mix_39 (by decide) ?_
    refine z_iconst (v := 3) dM_mix_40 (by decide) ?_
    refine z_same (z_V (C := RM) (b := 0) hE zEok_0 (m_isSame _ D ca ad 0 w h S O ow oh hwh 0 3 (by decide) (by decide)) dM_mix_41 (gd_V b_470 b_472 bs_20 b_3 b_473) rfl qM_isSame ⟨rfl, rfl⟩ (by rw [hR]; decide) (by rw [hR, hC, hS]; decide) rfl (Nat.le_of_ble_eq_true rfl) rfl rfl) (fun r aw1 hlen hr => ?_)
    obtain ⟨rfl, ⟨s5, s6, rfl⟩ | ⟨hn, rfl⟩⟩ := hr
    · simp only [zpush, zv]
      exact z_if_ne (tgt := 49) dM_mix_44 (by decide) (fun _ => k49 (sm3 4 (Or.inr ⟨rfl, s5.symm, s6.symm⟩))) (fun hc => absurd hc (by decide))
    · simp only [zpush, zv]
      exact z_if_ne (tgt := 49) dM_mix_44 (by decide) (fun hc => absurd rfl hc) (fun _ => k47 (Or.inr (Or.inr (by rw [if_pos c]; exact fun q => hn ⟨((q 3 (by omega) (by omega)).1).symm, ((q 3 (by omega) (by omega)).2).symm⟩))))
