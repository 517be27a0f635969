def okM (k : Nat) : Bool :=
  let y := yM k
  let q := mPs.getD k (0, 0, 0, 0)
  isW q.1 (.code y (bM k) (maxl k) (rM k)) && (if stM k then isW q.2.1 (.static y) else isW q.2.1 (.instanceMethod y)) &&
  ((stM k || isI k) || isW q.2.2.1 (.selects y.cls y y)) && isW q.2.2.2 (.initialized y.cls) && plainName y.cls &&
  decide (y.cls ≠ "java/lang/invoke/MethodHandle") && decide (y.cls ≠ "java/lang/invoke/VarHandle") && decide ((parseMethodDescriptor y.desc).map (fun d => d.parameters.length) = some (nar k - (if stM k then 0 else 1))) &&
  decide (oN (mOs.getD k 0) = y.cls)
set_option maxRecDepth 100000 in
theorem okL_0 : okL 0 = true := by decide +kernel
set_option maxRecDepth 100000 in
theorem okM_0 : okM 0 = true := by decide +kernel
set_option maxRecDepth 100000 in
theorem okL_1 : okL 1 = true := by decide +kernel
set_option maxRecDepth 100000 in
theorem okM_1 : okM 1 = true := by decide +kernel
set_option maxRecDepth 100000 in
theorem okL_2 : okL 2 = true := by decide +kernel
set_option maxRecDepth 100000 in
theorem okM_2 : okM 2 = true := by decide +kernel
set_option maxRecDepth 100000 in
theorem okL_3 : okL 3 = true := by decide +kernel
set_option maxRecDepth 100000 in
theorem okM_3 : okM 3 = true := by decide +kernel
set_option maxRecDepth 100000 in
theorem okL_4 : okL 4 = true := by decide +kernel
set_option maxRecDepth 100000 in
theorem okM_4 : okM 4 = true := by decide +kernel
set_option maxRecDepth 100000 in
theorem okL_5 : okL 5 = true := by decide +kernel
set_option maxRecDepth 100000 in
theorem okM_5 : okM 5 = true := by decide +kernel
set_option maxRecDepth 100000 in
theorem okL_6 : okL 6 = true := by decide +kernel
set_option maxRecDepth 100000 in
theorem okM_6 : okM 6 = true := by decide +kernel
set_option maxRecDepth 100000 in
theorem okL_7 : okL 7 = true := by decide +kernel
set_option maxRecDepth 100000 in
theorem okM_7 : okM 7 = true := by decide +kernel
set_option maxRecDepth 100000 in
theorem okL_8 : okL 8 = true := by decide +kernel
set_option maxRecDepth 100000 in
theorem okM_8 : okM 8 = true := by decide +kernel
set_option maxRecDepth 100000 in
theorem okL_9 : okL 9 = true := by decide +kernel
set_option maxRecDepth 100000 in
theorem okM_9 : okM 9 = true := by decide +kernel
set_option maxRecDepth 100000 in
theorem okL_10 : okL 10 = true := by decide +kernel
set_option maxRecDepth 100000 in
theorem okM_10 : okM 10 = true := by decide +kernel
set_option maxRecDepth 100000 in
theorem okL_11 : okL 11 = true := by decide +kernel
set_option maxRecDepth 100000 in
theorem okM_11 : okM 11 = true := by decide +kernel
set_option maxRecDepth 100000 in
theorem okL_12 : okL 12 = true := by decide +kernel
set_option maxRecDepth 100000 in
theorem okM_12 : okM 12 = true := by decide +kernel
set_option maxRecDepth 100000 in
theorem okL_13 : okL 13 = true := by decide +kernel
set_option maxRecDepth 100000 in
theorem okM_13 : okM 13 = true := by decide +kernel
set_option maxRecDepth 100000 in
theorem okL_14 : okL 14 = true := by decide +kernel
set_option maxRecDepth 100000 in
theorem okM_14 : okM 14 = true := by decide +kernel
set_option maxRecDepth 100000 in
theorem okL_15 : okL 15 = true := by decide +kernel
set_option maxRecDepth 100000 in
theorem okM_15 : okM 15 = true := by decide +kernel
set_option maxRecDepth 100000 in
theorem okL_16 : okL 16 = true := by decide +kernel
set_option maxRecDepth 100000 in
theorem okM_16 : okM 16 = true := by decide +kernel
set_option maxRecDepth 100000 in
theorem okL_17 : okL 17 = true := by decide +kernel
set_option maxRecDepth 100000 in
theorem okM_17 : okM 17 = true := by decide +kernel
set_option maxRecDepth 100000 in
theorem okL_18 : okL 18 = true := by decide +kernel
set_option maxRecDepth 100000 in
theorem okM_18 : okM 18 = true := by decide +kernel
set_option maxRecDepth 100000 in
theorem okL_19 : okL 19 = true := by decide +kernel
set_option maxRecDepth 100000 in
theorem okM_19 : okM 19 = true := by decide +kernel
set_option maxRecDepth 100000 in
theorem okL_20 : okL 20 = true := by decide +kernel
set_option maxRecDepth 100000 in
theorem okM_20 : okM 20 = true := by decide +kernel
set_option maxRecDepth 100000 in
theorem okL_21 : okL 21 = true := by decide +kernel
set_option maxRecDepth 100000 in
theorem okM_21 : okM 21 = true := by decide +kernel
set_option maxRecDepth 100000 in
theorem okL_22 : okL 22 = true := by decide +kernel
set_option maxRecDepth 100000 in
theorem okM_22 : okM 22 = true := by decide +kernel
set_option maxRecDepth 100000 in
theorem okL_23 : okL 23 = true := by decide +kernel
set_option maxRecDepth 100000 in
theorem okM_23 : okM 23 = true := by decide +kernel
set_option maxRecDepth 100000 in
theorem okL_24 : okL 24 = true := by decide +kernel
set_option maxRecDepth 100000 in
theorem okM_24 : okM 24 = true := by decide +kernel
set_option maxRecDepth 100000 in
theorem okL_25 : okL 25 = true := by decide +kernel
set_option maxRecDepth 100000 in
theorem okM_25 : okM 25 = true := by decide +kernel
set_option maxRecDepth 100000 in
theorem okL_26 : okL 26 = true := by decide +kernel
set_option maxRecDepth 100000 in
theorem okM_26 : okM 26 = true := by decide +kernel
set_option maxRecDepth 100000 in
theorem okL_27 : okL 27 = true := by decide +kernel
set_option maxRecDepth 100000 in
theorem okM_27 : okM 27 = true := by decide +kernel
set_option maxRecDepth 100000 in
theorem okL_28 : okL 28 = true := by decide +kernel
set_option maxRecDepth 100000 in
theorem okM_28 : okM 28 = true := by decide +kernel
set_option maxRecDepth 100000 in
theorem okL_29 : okL 29 = true := by decide +kernel
set_option maxRecDepth 100000 in
theorem okM_29 : okM 29 = true := by decide +kernel
set_option maxRecDepth 100000 in
theorem okL_30 : okL 30 = true := by decide +kernel
set_option maxRecDepth 100000 in
theorem okM_30 : okM 30 = true := by decide +kernel
set_option maxRecDepth 100000 in
theorem okL_31 : okL 31 = true := by decide +kernel
set_option maxRecDepth 100000 in
theorem okM_31 : okM 31 = true := by decide +kernel
set_option maxRecDepth 100000 in
theorem okL_32 : okL 32 = true := by decide +kernel
set_option maxRecDepth 100000 in
theorem okM_32 : okM 32 = true := by decide +kernel
set_option maxRecDepth 100000 in
theorem okL_33 : okL 33 = true := by decide +kernel
set_option maxRecDepth 100000 in
theorem okM_33 : okM 33 = true := by decide +kernel
set_option maxRecDepth 100000 in
theorem okL_34 : okL 34 = true := by decide +kernel
set_option maxRecDepth 100000 in
theorem okM_34 : okM 34 = true := by decide +kernel
set_option maxRecDepth 100000 in
theorem okL_35 : okL 35 = true := by decide +kernel
set_option maxRecDepth 100000 in
theorem okM_35 : okM 35 = true := by decide +kernel
set_option maxRecDepth 100000 in
theorem okL_36 : okL 36 = true := by decide +kernel
set_option maxRecDepth 100000 in
theorem okM_36 : okM 36 = true := by decide +kernel
set_option maxRecDepth 100000 in
theorem okL_37 : okL 37 = true := by decide +kernel
set_option maxRecDepth 100000 in
theorem okM_37 : okM 37 = true := by decide +kernel
set_option maxRecDepth 100000 in
theorem okL_38 : okL 38 = true := by decide +kernel
set_option maxRecDepth 100000 in
theorem okM_38 : okM 38 = true := by decide +kernel
set_option maxRecDepth 100000 in
theorem okL_39 : okL 39 = true := by decide +kernel
set_option maxRecDepth 100000 in
theorem okM_39 : okM 39 = true := by decide +kernel
set_option maxRecDepth 100000 in
theorem okL_40 : okL 40 = true := by decide +kernel
set_option maxRecDepth 100000 in
theorem okM_40 : okM 40 = true := by decide +kernel
set_option maxRecDepth 100000 in
theorem okL_41 : okL 41 = true := by decide +kernel
set_option maxRecDepth 100000 in
theorem okM_41 : okM 41 = true := by decide +kernel
set_option maxRecDepth 100000 in
theorem okL_42 : okL 42 = true := by decide +kernel
set_option maxRecDepth 100000 in
theorem okM_42 : okM 42 = true := by decide +kernel
set_option maxRecDepth 100000 in
theorem okL_43 : okL 43 = true := by decide +kernel
set_option maxRecDepth 100000 in
theorem okM_43 : okM 43 = true := by decide +kernel
set_option maxRecDepth 100000 in
theorem okL_44 : okL 44 = true := by decide +kernel
set_option maxRecDepth 100000 in
theorem okM_44 : okM 44 = true := by decide +kernel
set_option maxRecDepth 100000 in
theorem okL_45 : okL 45 = true := by decide +kernel
set_option maxRecDepth 100000 in
theorem okM_45 : okM 45 = true := by decide +kernel
set_option maxRecDepth 100000 in
theorem okL_46 : okL 46 = true := by decide +kernel
set_option maxRecDepth 100000 in
theorem okM_46 : okM 46 = true := by decide +kernel
set_option maxRecDepth 100000 in
theorem okL_47 : okL 47 = true := by decide +kernel
set_option maxRecDepth 100000 in
theorem okM_47 : okM 47 = true := by decide +kernel
set_option maxRecDepth 100000 in
theorem okL_48 : okL 48 = true := by decide +kernel
set_option maxRecDepth 100000 in
theorem okM_48 : okM 48 = true := by decide +kernel
set_option maxRecDepth 100000 in
theorem okL_49 : okL 49 = true := by decide +kernel
set_option maxRecDepth 100000 in
theorem okM_49 : okM 49 = true := by decide +kernel
set_option maxRecDepth 100000 in
theorem okL_50 : okL 50 = true := by decide +kernel
set_option maxRecDepth 100000 in
theorem okM_50 : okM 50 = true := by decide +kernel
set_option maxRecDepth 100000 in
theorem okL_51 : okL 51 = true := by decide +kernel
set_option maxRecDepth 100000 in
theorem okM_51 : okM 51 = true := by decide +kernel
set_option maxRecDepth 100000 in
theorem okL_52 : okL 52 = true := by decide +kernel
set_option maxRecDepth 100000 in
theorem okM_52 : okM 52 = true := by decide +kernel
set_option maxRecDepth 100000 in
theorem okL_53 : okL 53 = true := by decide +kernel
set_option maxRecDepth 100000 in
theorem okM_53 : okM 53 = true := by decide +kernel
set_option maxRecDepth 100000 in
theorem okL_54 : okL 54 = true := by decide +kernel
set_option maxRecDepth 100000 in
theorem okM_54 : okM 54 = true := by decide +kernel
set_option maxRecDepth 100000 in
theorem okL_55 : okL 55 = true := by decide +kernel
set_option maxRecDepth 100000 in
theorem okM_55 : okM 55 = true := by decide +kernel
set_option maxRecDepth 100000 in
theorem okL_56 : okL 56 = true := by decide +kernel
set_option maxRecDepth 100000 in
theorem okM_56 : okM 56 = true := by decide +kernel
set_option maxRecDepth 100000 in
theorem okL_57 : okL 57 = true := by decide +kernel
set_option maxRecDepth 100000 in
theorem okM_57 : okM 57 = true := by decide +kernel
set_option maxRecDepth 100000 in
theorem okL_58 : okL 58 = true := by decide +kernel
set_option maxRecDepth 100000 in
theorem okM_58 : okM 58 = true := by decide +kernel
set_option maxRecDepth 100000 in
theorem okL_59 : okL 59 = true := by decide +kernel
set_option maxRecDepth 100000 in
theorem okM_59 : okM 59 = true := by decide +kernel
set_option maxRecDepth 100000 in
theorem okL_60 : okL 60 = true := by decide +kernel
set_option maxRecDepth 100000 in
theorem okM_60 : okM 60 = true := by decide +kernel
set_option maxRecDepth 100000 in
theorem okL_61 : okL 61 = true := by decide +kernel
set_option maxRecDepth 100000 in
theorem okM_61 : okM 61 = true := by decide +kernel
set_option maxRecDepth 100000 in
theorem okL_62 : okL 62 = true := by decide +kernel
set_option maxRecDepth 100000 in
theorem okM_62 : okM 62 = true := by decide +kernel
set_option maxRecDepth 100000 in
theorem okL_63 : okL 63 = true := by decide +kernel
set_option maxRecDepth 100000 in
theorem okM_63 : okM 63 = true := by decide +kernel
set_option maxRecDepth 100000 in
theorem okL_64 : okL 64 = true := by decide +kernel
set_option maxRecDepth 100000 in
theorem okM_64 : okM 64 = true := by decide +kernel
set_option maxRecDepth 100000 in
theorem okL_65 : okL 65 = true := by decide +kernel
set_option maxRecDepth 100000 in
theorem okM_65 : okM 65 = true := by decide +kernel
set_option maxRecDepth 100000 in
theorem okL_66 : okL 66 = true := by decide +kernel
set_option maxRecDepth 100000 in
theorem okM_66 : okM 66 = true := by decide +kernel
set_option maxRecDepth 100000 in
theorem okL_67 : okL 67 = true := by decide +kernel
set_option maxRecDepth 100000 in
theorem okM_67 : okM 67 = true := by decide +kernel
set_option maxRecDepth 100000 in
theorem okL_68 : okL 68 = true := by decide +kernel
set_option maxRecDepth 100000 in
theorem okM_68 : okM 68 = true := by decide +kernel
set_option maxRecDepth 100000 in
theorem okL_69 : okL 69 = true := by decide +kernel
set_option maxRecDepth 100000 in
theorem okM_69 : okM 69 = true := by decide +kernel
set_option maxRecDepth 100000 in
theorem okL_70 : okL 70 = true := by decide +kernel
set_option maxRecDepth 100000 in
theorem okM_70 : okM 70 = true := by decide +kernel
set_option maxRecDepth 100000 in
theorem okL_71 : okL 71 = true := by decide +kernel
set_option maxRecDepth 100000 in
theorem okM_71 : okM 71 = true := by decide +kernel
set_option maxRecDepth 100000 in
theorem okL_72 : okL 72 = true := by decide +kernel
set_option maxRecDepth 100000 in
theorem okM_72 : okM 72 = true := by decide +kernel
set_option maxRecDepth 100000 in
theorem okL_73 : okL 73 = true := by decide +kernel
set_option maxRecDepth 100000 in
theorem okM_73 : okM 73 = true := by decide +kernel
set_option maxRecDepth 100000 in
theorem okL_74 : okL 74 = true := by decide +kernel
set_option maxRecDepth 100000 in
theorem okM_74 : okM 74 = true := by decide +kernel
set_option maxRecDepth 100000 in
theorem okL_75 : okL 75 = true := by decide +kernel
set_option maxRecDepth 100000 in
theorem okM_75 : okM 75 = true := by decide +kernel
set_option maxRecDepth 100000 in
theorem okL_76 : okL 76 = true := by decide +kernel
set_option maxRecDepth 100000 in
theorem okM_76 : okM 76 = true := by decide +kernel
set_option maxRecDepth 100000 in
theorem okL_77 : okL 77 = true := by decide +kernel
set_option maxRecDepth 100000 in
theorem okM_77 : okM 77 = true := by decide +kernel
set_option maxRecDepth 100000 in
theorem okL_78 : okL 78 = true := by decide +kernel
set_option maxRecDepth 100000 in
theorem okM_78 : okM 78 = true := by decide +kernel
set_option maxRecDepth 100000 in
theorem okL_79 : okL 79 = true := by decide +kernel
set_option maxRecDepth 100000 in
theorem okM_79 : okM 79 = true := by decide +kernel
set_option maxRecDepth 100000 in
theorem okL_80 : okL 80 = true := by decide +kernel
set_option maxRecDepth 100000 in
theorem okM_80 : okM 80 = true := by decide +kernel
set_option maxRecDepth 100000 in
theorem okL_81 : okL 81 = true := by decide +kernel
set_option maxRecDepth 100000 in
theorem okM_81 : okM 81 = true := by decide +kernel
set_option maxRecDepth 100000 in
theorem okL_82 : okL 82 = true := by decide +kernel
set_option maxRecDepth 100000 in
theorem okM_82 : okM 82 = true := by decide +kernel
set_option maxRecDepth 100000 in
theorem okL_83 : okL 83 = true := by decide +kernel
set_option maxRecDepth 100000 in
theorem okM_83 : okM 83 = true := by decide +kernel
set_option maxRecDepth 100000 in
theorem okL_84 : okL 84 = true := by decide +kernel
set_option maxRecDepth 100000 in
theorem okM_84 : okM 84 = true := by decide +kernel
set_option maxRecDepth 100000 in
theorem okL_85 : okL 85 = true := by decide +kernel
set_option maxRecDepth 100000 in
theorem okM_85 : okM 85 = true := by decide +kernel
set_option maxRecDepth 100000 in
theorem okL_86 : okL 86 = true := by decide +kernel
set_option maxRecDepth 100000 in
theorem okM_86 : okM 86 = true := by decide +kernel
set_option maxRecDepth 100000 in
theorem okL_87 : okL 87 = true := by decide +kernel
set_option maxRecDepth 100000 in
theorem okM_87 : okM 87 = true := by decide +kernel
set_option maxRecDepth 100000 in
theorem okL_88 : okL 88 = true := by decide +kernel
set_option maxRecDepth 100000 in
theorem okM_88 : okM 88 = true := by decide +kernel
set_option maxRecDepth 100000 in
theorem okL_89 : okL 89 = true := by decide +kernel
set_option maxRecDepth 100000 in
theorem okM_89 : okM 89 = true := by decide +kernel
set_option maxRecDepth 100000 in
theorem okL_90 : okL 90 = true := by decide +kernel
set_option maxRecDepth 100000 in
theorem okM_90 : okM 90 = true := by decide +kernel
set_option maxRecDepth 100000 in
theorem okL_91 : okL 91 = true := by decide +kernel
set_option maxRecDepth 100000 in
theorem okM_91 : okM 91 = true := by decide +kernel
set_option maxRecDepth 100000 in
theorem okL_92 : okL 92 = true := by decide +kernel
set_option maxRecDepth 100000 in
theorem okM_92 : okM 92 = true := by decide +kernel
set_option maxRecDepth 100000 in
theorem okL_93 : okL 93 = true := by decide +kernel
set_option maxRecDepth 100000 in
theorem okM_93 : okM 93 = true := by decide +kernel
set_option maxRecDepth 100000 in
theorem okL_94 : okL 94 = true := by decide +kernel
set_option maxRecDepth 100000 in
theorem okM_94 : okM 94 = true := by decide +kernel
set_option maxRecDepth 100000 in
theorem okL_95 : okL 95 = true := by decide +kernel
set_option maxRecDepth 100000 in
theorem okM_95 : okM 95 = true := by decide +kernel
set_option maxRecDepth 100000 in
theorem okL_96 : okL 96 = true := by decide +kernel
set_option maxRecDepth 100000 in
theorem okM_96 : okM 96 = true := by decide +kernel
set_option maxRecDepth 100000 in
theorem okL_97 : okL 97 = true := by decide +kernel
set_option maxRecDepth 100000 in
theorem okM_97 : okM 97 = true := by decide +kernel
set_option maxRecDepth 100000 in
theorem okL_98 : okL 98 = true := by decide +kernel
set_option maxRecDepth 100000 in
theorem okM_98 : okM 98 = true := by decide +kernel
set_option maxRecDepth 100000 in
theorem okL_99 : okL 99 = true := by decide +kernel
set_option maxRecDepth 100000 in
theorem okM_99 : okM 99 = true := by decide +kernel
set_option maxRecDepth 100000 in
theorem okL_100 : okL 100 = true := by decide +kernel
set_option maxRecDepth 100000 in
theorem okM_100 : okM 100 = true := by decide +kernel
set_option maxRecDepth 100000 in
theorem okL_101 : okL 101 = true := by decide +kernel
set_option maxRecDepth 100000 in
theorem okM_101 : okM 101 = true := by decide +kernel
set_option maxRecDepth 100000 in
theorem okL_102 : okL 102 = true := by decide +kernel
set_option maxRecDepth 100000 in
theorem okM_102 : okM 102 = true := by decide +kernel
set_option maxRecDepth 100000 in
theorem okL_103 : okL 103 = true := by decide +kernel
set_option maxRecDepth 100000 in
theorem okM_103 : okM 103 = true := by decide +kernel
set_option maxRecDepth 100000 in
theorem okL_104 : okL 104 = true := by decide +kernel
set_option maxRecDepth 100000 in
theorem okM_104 : okM 104 = true := by decide +kernel
set_option maxRecDepth 100000 in
theorem okL_105 : okL 105 = true := by decide +kernel
set_option maxRecDepth 100000 in
theorem okM_105 : okM 105 = true := by decide +kernel
set_option maxRecDepth 100000 in
theorem okL_106 : okL 106 = true := by decide +kernel
set_option maxRecDepth 100000 in
theorem okM_106 : okM 106 = true := by decide +kernel
set_option maxRecDepth 100000 in
theorem okL_107 : okL 107 = true := by decide +kernel
set_option maxRecDepth 100000 in
theorem okM_107 : okM 107 = true := by decide +kernel
set_option maxRecDepth 100000 in
theorem okL_108 : okL 108 = true := by decide +kernel
set_option maxRecDepth 100000 in
theorem okM_108 : okM 108 = true := by decide +kernel
set_option maxRecDepth 100000 in
theorem okL_109 : okL 109 = true := by decide +kernel
set_option maxRecDepth 100000 in
theorem okM_109 : okM 109 = true := by decide +kernel
set_option maxRecDepth 100000 in
theorem okL_110 : okL 110 = true := by decide +kernel
set_option maxRecDepth 100000 in
theorem okM_110 : okM 110 = true := by decide +kernel
set_option maxRecDepth 100000 in
theorem okL_111 : okL 111 = true := by decide +kernel
set_option maxRecDepth 100000 in
theorem okM_111 : okM 111 = true := by decide +kernel
set_option maxRecDepth 100000 in
theorem okL_112 : okL 112 = true := by decide +kernel
set_option maxRecDepth 100000 in
theorem okM_112 : okM 112 = true := by decide +kernel
set_option maxRecDepth 100000 in
theorem okL_113 : okL 113 = true := by decide +kernel
set_option maxRecDepth 100000 in
theorem okM_113 : okM 113 = true := by decide +kernel
set_option maxRecDepth 100000 in
theorem okL_114 : okL 114 = true := by decide +kernel
set_option maxRecDepth 100000 in
theorem okM_114 : okM 114 = true := by decide +kernel
set_option maxRecDepth 100000 in
theorem okL_115 : okL 115 = true := by decide +kernel
set_option maxRecDepth 100000 in
theorem okM_115 : okM 115 = true := by decide +kernel
set_option maxRecDepth 100000 in
theorem okL_116 : okL 116 = true := by decide +kernel
set_option maxRecDepth 100000 in
theorem okM_116 : okM 116 = true := by decide +kernel
theorem okL_all : ∀ k, k < 117 → okL k = true
  | 0, _ => okL_0
  | 1, _ => okL_1
  | 2, _ => okL_2
  | 3, _ => okL_3
  | 4, _ => okL_4
  | 5, _ => okL_5
  | 6, _ => okL_6
  | 7, _ => okL_7
  | 8, _ => okL_8
  | 9, _ => okL_9
  | 10, _ => okL_10
  | 11, _ => okL_11
  | 12, _ => okL_12
  | 13, _ => okL_13
  | 14, _ => okL_14
  | 15, _ => okL_15
  | 16, _ => okL_16
  | 17, _ => okL_17
  | 18, _ => okL_18
  | 19, _ => okL_19
  | 20, _ => okL_20
  | 21, _ => okL_21
  | 22, _ => okL_22
  | 23, _ => okL_23
  | 24, _ => okL_24
  | 25, _ => okL_25
  | 26, _ => okL_26
  | 27, _ => okL_27
  | 28, _ => okL_28
  | 29, _ => okL_29
  | 30, _ => okL_30
  | 31, _ => okL_31
  | 32, _ => okL_32
  | 33, _ => okL_33
  | 34, _ => okL_34
  | 35, _ => okL_35
  | 36, _ => okL_36
  | 37, _ => okL_37
  | 38, _ => okL_38
  | 39, _ => okL_39
  | 40, _ => okL_40
  | 41, _ => okL_41
  | 42, _ => okL_42
  | 43, _ => okL_43
  | 44, _ => okL_44
  | 45, _ => okL_45
  | 46, _ => okL_46
  | 47, _ => okL_47
  | 48, _ => okL_48
  | 49, _ => okL_49
  | 50, _ => okL_50
  | 51, _ => okL_51
  | 52, _ => okL_52
  | 53, _ => okL_53
  | 54, _ => okL_54
  | 55, _ => okL_55
  | 56, _ => okL_56
  | 57, _ => okL_57
  | 58, _ => okL_58
  | 59, _ => okL_59
  | 60, _ => okL_60
  | 61, _ => okL_61
  | 62, _ => okL_62
  | 63, _ => okL_63
  | 64, _ => okL_64
  | 65, _ => okL_65
  | 66, _ => okL_66
  | 67, _ => okL_67
  | 68, _ => okL_68
  | 69, _ => okL_69
  | 70, _ => okL_70
  | 71, _ => okL_71
  | 72, _ => okL_72
  | 73, _ => okL_73
  | 74, _ => okL_74
  | 75, _ => okL_75
  | 76, _ => okL_76
  | 77, _ => okL_77
  | 78, _ => okL_78
  | 79, _ => okL_79
  | 80, _ => okL_80
  | 81, _ => okL_81
  | 82, _ => okL_82
  | 83, _ => okL_83
  | 84, _ => okL_84
  | 85, _ => okL_85
  | 86, _ => okL_86
  | 87, _ => okL_87
  | 88, _ => okL_88
  | 89, _ => okL_89
  | 90, _ => okL_90
  | 91, _ => okL_91
  | 92, _ => okL_92
  | 93, _ => okL_93
  | 94, _ => okL_94
  | 95, _ => okL_95
  | 96, _ => okL_96
  | 97, _ => okL_97
  | 98, _ => okL_98
  | 99, _ => okL_99
  | 100, _ => okL_100
  | 101, _ => okL_101
  | 102, _ => okL_102
  | 103, _ => okL_103
  | 104, _ => okL_104
  | 105, _ => okL_105
  | 106, _ => okL_106
  | 107, _ => okL_107
  | 108, _ => okL_108
  | 109, _ => okL_109
  | 110, _ => okL_110
  | 111, _ => okL_111
  | 112, _ => okL_112
  | 113, _ => okL_113
  | 114, _ => okL_114
  | 115, _ => okL_115
  | 116, _ => okL_116
  | k + 117, h => absurd h (by omega)
theorem okM_all : ∀ k, k < 117 → okM k = true
  | 0, _ => okM_0
  | 1, _ => okM_1
  | 2, _ => okM_2
  | 3, _ => okM_3
  | 4, _ => okM_4
  | 5, _ => okM_5
  | 6, _ => okM_6
  | 7, _ => okM_7
  | 8, _ => okM_8
  | 9, _ => okM_9
  | 10, _ => okM_10
  | 11, _ => okM_11
  | 12, _ => okM_12
  | 13, _ => okM_13
  | 14, _ => okM_14
  | 15, _ => okM_15
  | 16, _ => okM_16
  | 17, _ => okM_17
  | 18, _ => okM_18
  | 19, _ => okM_19
  | 20, _ => okM_20
  | 21, _ => okM_21
  | 22, _ => okM_22
  | 23, _ => okM_23
  | 24, _ => okM_24
  | 25, _ => okM_25
  | 26, _ => okM_26
  | 27, _ => okM_27
  | 28, _ => okM_28
  | 29, _ => okM_29
  | 30, _ => okM_30
  | 31, _ => okM_31
  | 32, _ => okM_32
  | 33, _ => okM_33
  | 34, _ => okM_34
  | 35, _ => okM_35
  | 36, _ => okM_36
  | 37, _ => okM_37
  | 38, _ => okM_38
  | 39, _ => okM_39
  | 40, _ => okM_40
  | 41, _ => okM_41
  | 42, _ => okM_42
  | 43, _ => okM_43
  | 44, _ => okM_44
  | 45, _ => okM_45
  | 46, _ => okM_46
  | 47, _ => okM_47
  | 48, _ => okM_48
  | 49, _ => okM_49
  | 50, _ => okM_50
  | 51, _ => okM_51
  | 52, _ => okM_52
  | 53, _ => okM_53
  | 54, _ => okM_54
  | 55, _ => okM_55
  | 56, _ => okM_56
  | 57, _ => okM_57
  | 58, _ => okM_58
  | 59, _ => okM_59
  | 60, _ => okM_60
  | 61, _ => okM_61
  | 62, _ => okM_62
  | 63, _ => okM_63
  | 64, _ => okM_64
  | 65, _ => okM_65
  | 66, _ => okM_66
  | 67, _ => okM_67
  | 68, _ => okM_68
  | 69, _ => okM_69
  | 70, _ => okM_70
  | 71, _ => okM_71
  | 72, _ => okM_72
  | 73, _ => okM_73
  | 74, _ => okM_74
  | 75, _ => okM_75
  | 76, _ => okM_76
  | 77, _ => okM_77
  | 78, _ => okM_78
  | 79, _ => okM_79
  | 80, _ => okM_80
  | 81, _ => okM_81
  | 82, _ => okM_82
  | 83, _ => okM_83
  | 84, _ => okM_84
  | 85, _ => okM_85
  | 86, _ => okM_86
  | 87, _ => okM_87
  | 88, _ => okM_88
  | 89, _ => okM_89
  | 90, _ => okM_90
  | 91, _ => okM_91
  | 92, _ => okM_92
  | 93, _ => okM_93
  | 94, _ => okM_94
  | 95, _ => okM_95
  | 96, _ => okM_96
  | 97, _ => okM_97
  | 98, _ => okM_98
  | 99, _ => okM_99
  | 100, _ => okM_100
  | 101, _ => okM_101
  | 102, _ => okM_102
  | 103, _ => okM_103
  | 104, _ => okM_104
  | 105, _ => okM_105
  | 106, _ => okM_106
  | 107, _ => okM_107
  | 108, _ => okM_108
  | 109, _ => okM_109
  | 110, _ => okM_110
  | 111, _ => okM_111
  | 112, _ => okM_112
  | 113, _ => okM_113
  | 114, _ => okM_114
  | 115, _ => okM_115
  | 116, _ => okM_116
  | k + 117, h => absurd h (by omega)
def okC (ci : Nat) : Bool := match vwCl[ci]? with
  | some (C, T, N) => (u_ws C T N).all (fun w => decide (w ∈ lw_tbl) && goodWord w) && decide ((Cond.instantiable C N) ∈ lw_tbl) && decide ((Cond.initialized C) ∈ lw_tbl)
  | none => false
set_option maxRecDepth 100000 in
theorem okC_all : ∀ ci, ci < 8 → okC ci = true := by decide +kernel
set_option maxRecDepth 100000 in
theorem w_over : Cond.arrayOver (.object RX1) ∈ lw_tbl := by decide +kernel
set_option maxRecDepth 100000 in
theorem w_arr : Cond.arrayClass .int ∈ lw_tbl := by decide +kernel
set_option maxRecDepth 100000 in
theorem w_math : (Cond.static Lib.Math.abs.name ∈ lw_tbl ∧ Cond.static Lib.Math.max.name ∈ lw_tbl ∧ Cond.static Lib.Math.min.name ∈ lw_tbl) ∧ Cond.initialized "java/lang/Math" ∈ lw_tbl ∧ (Cond.code Lib.Math.abs.name Lib.Math.abs.code 1 (some .int) ∈ lw_tbl ∧ Cond.code Lib.Math.max.name Lib.Math.max.code 2 (some .int) ∈ lw_tbl ∧ Cond.code Lib.Math.min.name Lib.Math.min.code 2 (some .int) ∈ lw_tbl) := by decide +kernel
set_option maxRecDepth 100000 in
theorem w_obj : Cond.instanceMethod objectInit ∈ lw_tbl ∧ Cond.code objectInit ⟨#[0xb1]⟩ 1 none ∈ lw_tbl := by decide +kernel
