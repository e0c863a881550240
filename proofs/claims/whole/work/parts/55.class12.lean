/-! the class: workedOut -/
def s_twC (s a b : Int32) : Int32 := if s = -12 then a * b else if s = -11 then a - b else if s = -10 then a + b else if s = -9 then (if b < a then nI 1 else nI 0) else if s = -8 then (if a = b then nI 1 else nI 0) else if s = -7 then (if a < b then nI 1 else nI 0) else if s = -6 then (if ¬ a = 0 ∧ ¬ b = 0 then nI 1 else nI 0) else if s = -5 then (if ¬ a = 0 ∨ ¬ b = 0 then nI 1 else nI 0) else if b = 0 then nI 0 else a / b
set_option maxRecDepth 100000 in
set_option maxHeartbeats 4000000 in
theorem c4_workedOut (l : Launch) (E : Ex) (S : Sx) (im : Mem) (s a b : Int32) : Mt l E yX4_workedOut cX4_workedOut 3 (some .int) 1 0 0 [.int s, .int a, .int b] S im (pI (pE S im (s_twC s a b))) := by
  refine Mt.of (by decide +kernel) rfl rfl (Nat.le_of_ble_eq_true rfl) ?_
  intro κ hκ C ρ
  subst hκ
  show V E κ 3 0 0 0 [some (.int s), some (.int a), some (.int b)] [] S im
  refine z_iload_n (pc := 0) C dX4_workedOut_0 rfl ?_
  by_cases hs_m12 : s = (-12)
  · 
    refine z_eqi (y := (-12)) hs_m12 ?_
    refine z_tableIn (off := 116) (pc := 1) C 117 dX4_workedOut_1 (by decide) (by decide) (by decide +kernel) (by decide) ?_
    refine z_iload_n (pc := 117) C dX4_workedOut_117 rfl ?_
    refine z_iload_n (pc := 118) C dX4_workedOut_118 rfl ?_
    refine z_imul (pc := 119) C dX4_workedOut_119 ?_
    exact z_iret (pc := 120) C ρ dX4_workedOut_120 (⟨_, rfl, by simp [s_twC, *], rfl, rfl⟩)
  by_cases hs_m11 : s = (-11)
  · 
    refine z_eqi (y := (-11)) hs_m11 ?_
    refine z_tableIn (off := 112) (pc := 1) C 113 dX4_workedOut_1 (by decide) (by decide) (by decide +kernel) (by decide) ?_
    refine z_iload_n (pc := 113) C dX4_workedOut_113 rfl ?_
    refine z_iload_n (pc := 114) C dX4_workedOut_114 rfl ?_
    refine z_isub (pc := 115) C dX4_workedOut_115 ?_
    exact z_iret (pc := 116) C ρ dX4_workedOut_116 (⟨_, rfl, by simp [s_twC, *], rfl, rfl⟩)
  by_cases hs_m10 : s = (-10)
  · 
    refine z_eqi (y := (-10)) hs_m10 ?_
    refine z_tableIn (off := 108) (pc := 1) C 109 dX4_workedOut_1 (by decide) (by decide) (by decide +kernel) (by decide) ?_
    refine z_iload_n (pc := 109) C dX4_workedOut_109 rfl ?_
    refine z_iload_n (pc := 110) C dX4_workedOut_110 rfl ?_
    refine z_iadd (pc := 111) C dX4_workedOut_111 ?_
    exact z_iret (pc := 112) C ρ dX4_workedOut_112 (⟨_, rfl, by simp [s_twC, *], rfl, rfl⟩)
  by_cases hs_m9 : s = (-9)
  · 
    refine z_eqi (y := (-9)) hs_m9 ?_
    refine z_tableIn (off := 97) (pc := 1) C 98 dX4_workedOut_1 (by decide) (by decide) (by decide +kernel) (by decide) ?_
    refine z_iload_n (pc := 98) C dX4_workedOut_98 rfl ?_
    refine z_iload_n (pc := 99) C dX4_workedOut_99 rfl ?_
    refine z_icmp_le (pc := 100) C 107 dX4_workedOut_100 (by decide) (fun c_100 => ?_) (fun c_100 => ?_)
    · 
      refine z_iconstN (pc := 107) C 0 dX4_workedOut_107 ?_
      exact z_iret (pc := 108) C ρ dX4_workedOut_108 (⟨_, rfl, by first | simp [s_twC, *, Int32.not_lt.mpr c_100] | simp [s_twC, *, Int32.not_le.mp c_100], rfl, rfl⟩)
    · 
      refine z_iconstN (pc := 103) C 1 dX4_workedOut_103 ?_
      refine z_goto (pc := 104) C 108 dX4_workedOut_104 (by decide) ?_
      exact z_iret (pc := 108) C ρ dX4_workedOut_108 (⟨_, rfl, by first | simp [s_twC, *, Int32.not_lt.mpr c_100] | simp [s_twC, *, Int32.not_le.mp c_100], rfl, rfl⟩)
  by_cases hs_m8 : s = (-8)
  · 
    refine z_eqi (y := (-8)) hs_m8 ?_
    refine z_tableIn (off := 86) (pc := 1) C 87 dX4_workedOut_1 (by decide) (by decide) (by decide +kernel) (by decide) ?_
    refine z_iload_n (pc := 87) C dX4_workedOut_87 rfl ?_
    refine z_iload_n (pc := 88) C dX4_workedOut_88 rfl ?_
    refine z_icmp_ne (pc := 89) C 96 dX4_workedOut_89 (by decide) (fun c_89 => ?_) (fun c_89 => ?_)
    · 
      refine z_iconstN (pc := 96) C 0 dX4_workedOut_96 ?_
      exact z_iret (pc := 97) C ρ dX4_workedOut_97 (⟨_, rfl, by simp [s_twC, *], rfl, rfl⟩)
    · 
      refine z_iconstN (pc := 92) C 1 dX4_workedOut_92 ?_
      refine z_goto (pc := 93) C 97 dX4_workedOut_93 (by decide) ?_
      exact z_iret (pc := 97) C ρ dX4_workedOut_97 (⟨_, rfl, by simp [s_twC, *], rfl, rfl⟩)
  by_cases hs_m7 : s = (-7)
  · 
    refine z_eqi (y := (-7)) hs_m7 ?_
    refine z_tableIn (off := 75) (pc := 1) C 76 dX4_workedOut_1 (by decide) (by decide) (by decide +kernel) (by decide) ?_
    refine z_iload_n (pc := 76) C dX4_workedOut_76 rfl ?_
    refine z_iload_n (pc := 77) C dX4_workedOut_77 rfl ?_
    refine z_icmp_ge (pc := 78) C 85 dX4_workedOut_78 (by decide) (fun c_78 => ?_) (fun c_78 => ?_)
    · 
      refine z_iconstN (pc := 85) C 0 dX4_workedOut_85 ?_
      exact z_iret (pc := 86) C ρ dX4_workedOut_86 (⟨_, rfl, by first | simp [s_twC, *, Int32.not_lt.mpr c_78] | simp [s_twC, *, Int32.not_le.mp c_78], rfl, rfl⟩)
    · 
      refine z_iconstN (pc := 81) C 1 dX4_workedOut_81 ?_
      refine z_goto (pc := 82) C 86 dX4_workedOut_82 (by decide) ?_
      exact z_iret (pc := 86) C ρ dX4_workedOut_86 (⟨_, rfl, by first | simp [s_twC, *, Int32.not_lt.mpr c_78] | simp [s_twC, *, Int32.not_le.mp c_78], rfl, rfl⟩)
  by_cases hs_m6 : s = (-6)
  · 
    refine z_eqi (y := (-6)) hs_m6 ?_
    refine z_tableIn (off := 61) (pc := 1) C 62 dX4_workedOut_1 (by decide) (by decide) (by decide +kernel) (by decide) ?_
    refine z_iload_n (pc := 62) C dX4_workedOut_62 rfl ?_
    refine z_if_eq (pc := 63) C 74 dX4_workedOut_63 (by decide) (fun c_63 => ?_) (fun c_63 => ?_)
    · 
      refine z_iconstN (pc := 74) C 0 dX4_workedOut_74 ?_
      exact z_iret (pc := 75) C ρ dX4_workedOut_75 (⟨_, rfl, by simp [s_twC, *], rfl, rfl⟩)
    · 
      refine z_iload_n (pc := 66) C dX4_workedOut_66 rfl ?_
      refine z_if_eq (pc := 67) C 74 dX4_workedOut_67 (by decide) (fun c_67 => ?_) (fun c_67 => ?_)
      · 
        refine z_iconstN (pc := 74) C 0 dX4_workedOut_74 ?_
        exact z_iret (pc := 75) C ρ dX4_workedOut_75 (⟨_, rfl, by simp [s_twC, *], rfl, rfl⟩)
      · 
        refine z_iconstN (pc := 70) C 1 dX4_workedOut_70 ?_
        refine z_goto (pc := 71) C 75 dX4_workedOut_71 (by decide) ?_
        exact z_iret (pc := 75) C ρ dX4_workedOut_75 (⟨_, rfl, by simp [s_twC, *], rfl, rfl⟩)
  by_cases hs_m5 : s = (-5)
  · 
    refine z_eqi (y := (-5)) hs_m5 ?_
    refine z_tableIn (off := 47) (pc := 1) C 48 dX4_workedOut_1 (by decide) (by decide) (by decide +kernel) (by decide) ?_
    refine z_iload_n (pc := 48) C dX4_workedOut_48 rfl ?_
    refine z_if_ne (pc := 49) C 56 dX4_workedOut_49 (by decide) (fun c_49 => ?_) (fun c_49 => ?_)
    · 
      refine z_iconstN (pc := 56) C 1 dX4_workedOut_56 ?_
      refine z_goto (pc := 57) C 61 dX4_workedOut_57 (by decide) ?_
      exact z_iret (pc := 61) C ρ dX4_workedOut_61 (⟨_, rfl, by simp [s_twC, *], rfl, rfl⟩)
    · 
      refine z_iload_n (pc := 52) C dX4_workedOut_52 rfl ?_
      refine z_if_eq (pc := 53) C 60 dX4_workedOut_53 (by decide) (fun c_53 => ?_) (fun c_53 => ?_)
      · 
        refine z_iconstN (pc := 60) C 0 dX4_workedOut_60 ?_
        exact z_iret (pc := 61) C ρ dX4_workedOut_61 (⟨_, rfl, by simp [s_twC, *], rfl, rfl⟩)
      · 
        refine z_iconstN (pc := 56) C 1 dX4_workedOut_56 ?_
        refine z_goto (pc := 57) C 61 dX4_workedOut_57 (by decide) ?_
        exact z_iret (pc := 61) C ρ dX4_workedOut_61 (⟨_, rfl, by simp [s_twC, *], rfl, rfl⟩)
  refine z_tableOut (pc := 1) C 121 dX4_workedOut_1 (by have q_0 := lv_neT hs_m12 (show ((-12) : Int32).toInt = -12 by decide); have q_1 := lv_neT hs_m11 (show ((-11) : Int32).toInt = -11 by decide); have q_2 := lv_neT hs_m10 (show ((-10) : Int32).toInt = -10 by decide); have q_3 := lv_neT hs_m9 (show ((-9) : Int32).toInt = -9 by decide); have q_4 := lv_neT hs_m8 (show ((-8) : Int32).toInt = -8 by decide); have q_5 := lv_neT hs_m7 (show ((-7) : Int32).toInt = -7 by decide); have q_6 := lv_neT hs_m6 (show ((-6) : Int32).toInt = -6 by decide); have q_7 := lv_neT hs_m5 (show ((-5) : Int32).toInt = -5 by decide); omega) (by decide) ?_
  refine z_iload_n (pc := 121) C dX4_workedOut_121 rfl ?_
  refine z_if_ne (pc := 122) C 129 dX4_workedOut_122 (by decide) (fun c_122 => ?_) (fun c_122 => ?_)
  · 
    refine z_iload_n (pc := 129) C dX4_workedOut_129 rfl ?_
    refine z_iload_n (pc := 130) C dX4_workedOut_130 rfl ?_
    refine z_idiv (pc := 131) C dX4_workedOut_131 (c_122) ?_
    exact z_iret (pc := 132) C ρ dX4_workedOut_132 (⟨_, rfl, by simp [s_twC, *], rfl, rfl⟩)
  · 
    refine z_iconstN (pc := 125) C 0 dX4_workedOut_125 ?_
    refine z_goto (pc := 126) C 132 dX4_workedOut_126 (by decide) ?_
    exact z_iret (pc := 132) C ρ dX4_workedOut_132 (⟨_, rfl, by simp [s_twC, *], rfl, rfl⟩)
theorem tw_eq {j : Nat} (h1 : 1 ≤ j) (h9 : j ≤ 9) (a b : Int32) : s_twC (-4 - nI j) a b = s_two (0 - nI j) a b := by
  rcases (show j = 1 ∨ j = 2 ∨ j = 3 ∨ j = 4 ∨ j = 5 ∨ j = 6 ∨ j = 7 ∨ j = 8 ∨ j = 9 by omega) with rfl | rfl | rfl | rfl | rfl | rfl | rfl | rfl | rfl <;> rfl
