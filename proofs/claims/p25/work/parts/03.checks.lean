/-! ===== CHECKS by computing: the tables are what the machine's words and bytes say ===== -/
def lenI : Instr → Nat
  | .bipush _ => 2 | .sipush _ => 3 | .iload _ => 2 | .aload _ => 2 | .istore _ => 2 | .iinc _ _ => 3
  | .ifCond _ _ => 3 | .if_icmp _ _ => 3 | .ifnull _ => 3 | .ifnonnull _ => 3 | .goto _ => 3
  | .getfield _ => 3 | .putfield _ => 3 | .new _ => 3 | .anewarray _ => 3 | .newarray _ => 2
  | .invokevirtual _ => 3 | .invokestatic _ => 3 | .invokespecial _ => 3
  | .ldc _ => 2 | .ldc2_w _ => 3 | .lload _ => 2 | .lstore _ => 2
  | _ => 1
def oN (own : Nat) : String := oNs.getD own ""
def isW (p : Nat) (w : Cond) : Bool := decide (lw_tbl[p]? = some w)
theorem isW_mem {p : Nat} {w : Cond} (h : isW p w = true) : w ∈ lw_tbl := List.mem_of_getElem? (of_decide_eq_true h)
def chkL (e : AE) : Bool := match e.2.1 with
  | .tableswitch _ _ _ _ => true
  | i => e.2.2.1 == lenI i
def chkF (own idx a b p : Nat) : Bool := match vwCl[a]? with
  | some (_, T, N) => decide (b < N) && (isW p (.fieldLink (oN own) idx (T b).1 (T b).2.1 (T b).2.2.1) || isW p (.fieldLinkNest (oN own) idx (T b).1 (T b).2.1 (T b).2.2.1 "TankDivers")) && (!(T b).2.2.2 || (decide ((T b).1 = oN own) && isW p (.fieldLink (oN own) idx (T b).1 (T b).2.1 (T b).2.2.1)))
  | none => false
def chkG (own idx a b p : Nat) : Bool := match vwCl[a]? with
  | some (_, T, N) => decide (b < N) && (isW p (.fieldLink (oN own) idx (T b).1 (T b).2.1 (T b).2.2.1) || isW p (.fieldLinkNest (oN own) idx (T b).1 (T b).2.1 (T b).2.2.1 "TankDivers"))
  | none => false
def chkO (own : Nat) (e : AE) : Bool :=
  let a := e.2.2.2.1
  let b := e.2.2.2.2.1
  let p := e.2.2.2.2.2
  match e.2.1 with
  | .getfield idx => chkG own idx a b p
  | .putfield idx => chkF own idx a b p
  | .invokevirtual idx => isW p (.methodLink (oN own) idx (yM a))
  | .invokestatic idx => if a = 900 then isW p (.methodLink (oN own) idx Lib.Math.abs.name) else if a = 901 then isW p (.methodLink (oN own) idx Lib.Math.max.name) else if a = 902 then isW p (.methodLink (oN own) idx Lib.Math.min.name) else isW p (.methodLink (oN own) idx (yM a))
  | .invokespecial idx => if a = 999 then isW p (.methodLink (oN own) idx objectInit) else if b = 1 then isW p (.methodLinkNest (oN own) idx (yM a) "TankDivers") else isW p (.methodLink (oN own) idx (yM a))
  | .new idx => match vwCl[a]? with
    | some (C, _, _) => isW p (.classLink (oN own) idx C)
    | none => false
  | .anewarray idx => isW p (.classLink (oN own) idx RX1)
  | .ldc idx => isW p (.constant (oN own) idx (i32 (a : Int)))
  | .ldc2_w idx => isW p (.constantLong (oN own) idx (Int64.ofNat a))
  | _ => true
def okL (k : Nat) : Bool := (codes.getD k []).all (fun e => chkL e && chkO (mOs.getD k 0) e)
def okD (k : Nat) : Bool := (codes.getD k []).all (fun e => decide (decode (bM k) e.1 = .ok (e.2.1, e.2.2.1)))
set_option maxRecDepth 100000 in
theorem okD_0 : okD 0 = true := by decide +kernel
set_option maxRecDepth 100000 in
theorem okD_1 : okD 1 = true := by decide +kernel
set_option maxRecDepth 100000 in
theorem okD_2 : okD 2 = true := by decide +kernel
set_option maxRecDepth 100000 in
theorem okD_3 : okD 3 = true := by decide +kernel
set_option maxRecDepth 100000 in
theorem okD_4 : okD 4 = true := by decide +kernel
set_option maxRecDepth 100000 in
theorem okD_5 : okD 5 = true := by decide +kernel
set_option maxRecDepth 100000 in
theorem okD_6 : okD 6 = true := by decide +kernel
set_option maxRecDepth 100000 in
theorem okD_7 : okD 7 = true := by decide +kernel
set_option maxRecDepth 100000 in
theorem okD_8 : okD 8 = true := by decide +kernel
set_option maxRecDepth 100000 in
theorem okD_9 : okD 9 = true := by decide +kernel
set_option maxRecDepth 100000 in
theorem okD_10 : okD 10 = true := by decide +kernel
set_option maxRecDepth 100000 in
theorem okD_11 : okD 11 = true := by decide +kernel
set_option maxRecDepth 100000 in
theorem okD_12 : okD 12 = true := by decide +kernel
set_option maxRecDepth 100000 in
theorem okD_13 : okD 13 = true := by decide +kernel
set_option maxRecDepth 100000 in
theorem okD_14 : okD 14 = true := by decide +kernel
set_option maxRecDepth 100000 in
theorem okD_15 : okD 15 = true := by decide +kernel
set_option maxRecDepth 100000 in
theorem okD_16 : okD 16 = true := by decide +kernel
set_option maxRecDepth 100000 in
theorem okD_17 : okD 17 = true := by decide +kernel
set_option maxRecDepth 100000 in
theorem okD_18 : okD 18 = true := by decide +kernel
set_option maxRecDepth 100000 in
theorem okD_19 : okD 19 = true := by decide +kernel
set_option maxRecDepth 100000 in
theorem okD_20 : okD 20 = true := by decide +kernel
set_option maxRecDepth 100000 in
theorem okD_21 : okD 21 = true := by decide +kernel
set_option maxRecDepth 100000 in
theorem okD_22 : okD 22 = true := by decide +kernel
set_option maxRecDepth 100000 in
theorem okD_23 : okD 23 = true := by decide +kernel
set_option maxRecDepth 100000 in
theorem okD_24 : okD 24 = true := by decide +kernel
set_option maxRecDepth 100000 in
theorem okD_25 : okD 25 = true := by decide +kernel
set_option maxRecDepth 100000 in
theorem okD_26 : okD 26 = true := by decide +kernel
set_option maxRecDepth 100000 in
theorem okD_27 : okD 27 = true := by decide +kernel
set_option maxRecDepth 100000 in
theorem okD_28 : okD 28 = true := by decide +kernel
set_option maxRecDepth 100000 in
theorem okD_29 : okD 29 = true := by decide +kernel
set_option maxRecDepth 100000 in
theorem okD_30 : okD 30 = true := by decide +kernel
set_option maxRecDepth 100000 in
theorem okD_31 : okD 31 = true := by decide +kernel
set_option maxRecDepth 100000 in
theorem okD_32 : okD 32 = true := by decide +kernel
set_option maxRecDepth 100000 in
theorem okD_33 : okD 33 = true := by decide +kernel
set_option maxRecDepth 100000 in
theorem okD_34 : okD 34 = true := by decide +kernel
set_option maxRecDepth 100000 in
theorem okD_35 : okD 35 = true := by decide +kernel
set_option maxRecDepth 100000 in
theorem okD_36 : okD 36 = true := by decide +kernel
set_option maxRecDepth 100000 in
theorem okD_37 : okD 37 = true := by decide +kernel
set_option maxRecDepth 100000 in
theorem okD_38 : okD 38 = true := by decide +kernel
set_option maxRecDepth 100000 in
theorem okD_39 : okD 39 = true := by decide +kernel
set_option maxRecDepth 100000 in
theorem okD_40 : okD 40 = true := by decide +kernel
set_option maxRecDepth 100000 in
theorem okD_41 : okD 41 = true := by decide +kernel
set_option maxRecDepth 100000 in
theorem okD_42 : okD 42 = true := by decide +kernel
set_option maxRecDepth 100000 in
theorem okD_43 : okD 43 = true := by decide +kernel
set_option maxRecDepth 100000 in
theorem okD_44 : okD 44 = true := by decide +kernel
set_option maxRecDepth 100000 in
theorem okD_45 : okD 45 = true := by decide +kernel
set_option maxRecDepth 100000 in
theorem okD_46 : okD 46 = true := by decide +kernel
set_option maxRecDepth 100000 in
theorem okD_47 : okD 47 = true := by decide +kernel
set_option maxRecDepth 100000 in
theorem okD_48 : okD 48 = true := by decide +kernel
set_option maxRecDepth 100000 in
theorem okD_49 : okD 49 = true := by decide +kernel
set_option maxRecDepth 100000 in
theorem okD_50 : okD 50 = true := by decide +kernel
set_option maxRecDepth 100000 in
theorem okD_51 : okD 51 = true := by decide +kernel
set_option maxRecDepth 100000 in
theorem okD_52 : okD 52 = true := by decide +kernel
set_option maxRecDepth 100000 in
theorem okD_53 : okD 53 = true := by decide +kernel
set_option maxRecDepth 100000 in
theorem okD_54 : okD 54 = true := by decide +kernel
set_option maxRecDepth 100000 in
theorem okD_55 : okD 55 = true := by decide +kernel
set_option maxRecDepth 100000 in
theorem okD_56 : okD 56 = true := by decide +kernel
set_option maxRecDepth 100000 in
theorem okD_57 : okD 57 = true := by decide +kernel
set_option maxRecDepth 100000 in
theorem okD_58 : okD 58 = true := by decide +kernel
set_option maxRecDepth 100000 in
theorem okD_59 : okD 59 = true := by decide +kernel
set_option maxRecDepth 100000 in
theorem okD_60 : okD 60 = true := by decide +kernel
set_option maxRecDepth 100000 in
theorem okD_61 : okD 61 = true := by decide +kernel
set_option maxRecDepth 100000 in
theorem okD_62 : okD 62 = true := by decide +kernel
set_option maxRecDepth 100000 in
theorem okD_63 : okD 63 = true := by decide +kernel
set_option maxRecDepth 100000 in
theorem okD_64 : okD 64 = true := by decide +kernel
set_option maxRecDepth 100000 in
theorem okD_65 : okD 65 = true := by decide +kernel
set_option maxRecDepth 100000 in
theorem okD_66 : okD 66 = true := by decide +kernel
set_option maxRecDepth 100000 in
theorem okD_67 : okD 67 = true := by decide +kernel
set_option maxRecDepth 100000 in
theorem okD_68 : okD 68 = true := by decide +kernel
set_option maxRecDepth 100000 in
theorem okD_69 : okD 69 = true := by decide +kernel
set_option maxRecDepth 100000 in
theorem okD_70 : okD 70 = true := by decide +kernel
set_option maxRecDepth 100000 in
theorem okD_71 : okD 71 = true := by decide +kernel
set_option maxRecDepth 100000 in
theorem okD_72 : okD 72 = true := by decide +kernel
set_option maxRecDepth 100000 in
theorem okD_73 : okD 73 = true := by decide +kernel
set_option maxRecDepth 100000 in
theorem okD_74 : okD 74 = true := by decide +kernel
set_option maxRecDepth 100000 in
theorem okD_75 : okD 75 = true := by decide +kernel
set_option maxRecDepth 100000 in
theorem okD_76 : okD 76 = true := by decide +kernel
set_option maxRecDepth 100000 in
theorem okD_77 : okD 77 = true := by decide +kernel
set_option maxRecDepth 100000 in
theorem okD_78 : okD 78 = true := by decide +kernel
set_option maxRecDepth 100000 in
theorem okD_79 : okD 79 = true := by decide +kernel
set_option maxRecDepth 100000 in
theorem okD_80 : okD 80 = true := by decide +kernel
set_option maxRecDepth 100000 in
theorem okD_81 : okD 81 = true := by decide +kernel
set_option maxRecDepth 100000 in
theorem okD_82 : okD 82 = true := by decide +kernel
set_option maxRecDepth 100000 in
theorem okD_83 : okD 83 = true := by decide +kernel
set_option maxRecDepth 100000 in
theorem okD_84 : okD 84 = true := by decide +kernel
set_option maxRecDepth 100000 in
theorem okD_85 : okD 85 = true := by decide +kernel
set_option maxRecDepth 100000 in
theorem okD_86 : okD 86 = true := by decide +kernel
set_option maxRecDepth 100000 in
theorem okD_87 : okD 87 = true := by decide +kernel
set_option maxRecDepth 100000 in
theorem okD_88 : okD 88 = true := by decide +kernel
set_option maxRecDepth 100000 in
theorem okD_89 : okD 89 = true := by decide +kernel
set_option maxRecDepth 100000 in
theorem okD_90 : okD 90 = true := by decide +kernel
set_option maxRecDepth 100000 in
theorem okD_91 : okD 91 = true := by decide +kernel
set_option maxRecDepth 100000 in
theorem okD_92 : okD 92 = true := by decide +kernel
set_option maxRecDepth 100000 in
theorem okD_93 : okD 93 = true := by decide +kernel
set_option maxRecDepth 100000 in
theorem okD_94 : okD 94 = true := by decide +kernel
set_option maxRecDepth 100000 in
theorem okD_95 : okD 95 = true := by decide +kernel
set_option maxRecDepth 100000 in
theorem okD_96 : okD 96 = true := by decide +kernel
set_option maxRecDepth 100000 in
theorem okD_97 : okD 97 = true := by decide +kernel
set_option maxRecDepth 100000 in
theorem okD_98 : okD 98 = true := by decide +kernel
set_option maxRecDepth 100000 in
theorem okD_99 : okD 99 = true := by decide +kernel
set_option maxRecDepth 100000 in
theorem okD_100 : okD 100 = true := by decide +kernel
set_option maxRecDepth 100000 in
theorem okD_101 : okD 101 = true := by decide +kernel
set_option maxRecDepth 100000 in
theorem okD_102 : okD 102 = true := by decide +kernel
set_option maxRecDepth 100000 in
theorem okD_103 : okD 103 = true := by decide +kernel
set_option maxRecDepth 100000 in
theorem okD_104 : okD 104 = true := by decide +kernel
set_option maxRecDepth 100000 in
theorem okD_105 : okD 105 = true := by decide +kernel
set_option maxRecDepth 100000 in
theorem okD_106 : okD 106 = true := by decide +kernel
set_option maxRecDepth 100000 in
theorem okD_107 : okD 107 = true := by decide +kernel
set_option maxRecDepth 100000 in
theorem okD_108 : okD 108 = true := by decide +kernel
set_option maxRecDepth 100000 in
theorem okD_109 : okD 109 = true := by decide +kernel
set_option maxRecDepth 100000 in
theorem okD_110 : okD 110 = true := by decide +kernel
set_option maxRecDepth 100000 in
theorem okD_111 : okD 111 = true := by decide +kernel
set_option maxRecDepth 100000 in
theorem okD_112 : okD 112 = true := by decide +kernel
set_option maxRecDepth 100000 in
theorem okD_113 : okD 113 = true := by decide +kernel
set_option maxRecDepth 100000 in
theorem okD_114 : okD 114 = true := by decide +kernel
set_option maxRecDepth 100000 in
theorem okD_115 : okD 115 = true := by decide +kernel
set_option maxRecDepth 100000 in
theorem okD_116 : okD 116 = true := by decide +kernel
theorem okD_all : ∀ k, k < 117 → okD k = true
  | 0, _ => okD_0
  | 1, _ => okD_1
  | 2, _ => okD_2
  | 3, _ => okD_3
  | 4, _ => okD_4
  | 5, _ => okD_5
  | 6, _ => okD_6
  | 7, _ => okD_7
  | 8, _ => okD_8
  | 9, _ => okD_9
  | 10, _ => okD_10
  | 11, _ => okD_11
  | 12, _ => okD_12
  | 13, _ => okD_13
  | 14, _ => okD_14
  | 15, _ => okD_15
  | 16, _ => okD_16
  | 17, _ => okD_17
  | 18, _ => okD_18
  | 19, _ => okD_19
  | 20, _ => okD_20
  | 21, _ => okD_21
  | 22, _ => okD_22
  | 23, _ => okD_23
  | 24, _ => okD_24
  | 25, _ => okD_25
  | 26, _ => okD_26
  | 27, _ => okD_27
  | 28, _ => okD_28
  | 29, _ => okD_29
  | 30, _ => okD_30
  | 31, _ => okD_31
  | 32, _ => okD_32
  | 33, _ => okD_33
  | 34, _ => okD_34
  | 35, _ => okD_35
  | 36, _ => okD_36
  | 37, _ => okD_37
  | 38, _ => okD_38
  | 39, _ => okD_39
  | 40, _ => okD_40
  | 41, _ => okD_41
  | 42, _ => okD_42
  | 43, _ => okD_43
  | 44, _ => okD_44
  | 45, _ => okD_45
  | 46, _ => okD_46
  | 47, _ => okD_47
  | 48, _ => okD_48
  | 49, _ => okD_49
  | 50, _ => okD_50
  | 51, _ => okD_51
  | 52, _ => okD_52
  | 53, _ => okD_53
  | 54, _ => okD_54
  | 55, _ => okD_55
  | 56, _ => okD_56
  | 57, _ => okD_57
  | 58, _ => okD_58
  | 59, _ => okD_59
  | 60, _ => okD_60
  | 61, _ => okD_61
  | 62, _ => okD_62
  | 63, _ => okD_63
  | 64, _ => okD_64
  | 65, _ => okD_65
  | 66, _ => okD_66
  | 67, _ => okD_67
  | 68, _ => okD_68
  | 69, _ => okD_69
  | 70, _ => okD_70
  | 71, _ => okD_71
  | 72, _ => okD_72
  | 73, _ => okD_73
  | 74, _ => okD_74
  | 75, _ => okD_75
  | 76, _ => okD_76
  | 77, _ => okD_77
  | 78, _ => okD_78
  | 79, _ => okD_79
  | 80, _ => okD_80
  | 81, _ => okD_81
  | 82, _ => okD_82
  | 83, _ => okD_83
  | 84, _ => okD_84
  | 85, _ => okD_85
  | 86, _ => okD_86
  | 87, _ => okD_87
  | 88, _ => okD_88
  | 89, _ => okD_89
  | 90, _ => okD_90
  | 91, _ => okD_91
  | 92, _ => okD_92
  | 93, _ => okD_93
  | 94, _ => okD_94
  | 95, _ => okD_95
  | 96, _ => okD_96
  | 97, _ => okD_97
  | 98, _ => okD_98
  | 99, _ => okD_99
  | 100, _ => okD_100
  | 101, _ => okD_101
  | 102, _ => okD_102
  | 103, _ => okD_103
  | 104, _ => okD_104
  | 105, _ => okD_105
  | 106, _ => okD_106
  | 107, _ => okD_107
  | 108, _ => okD_108
  | 109, _ => okD_109
  | 110, _ => okD_110
  | 111, _ => okD_111
  | 112, _ => okD_112
  | 113, _ => okD_113
  | 114, _ => okD_114
  | 115, _ => okD_115
  | 116, _ => okD_116
  | k + 117, h => absurd h (by omega)
