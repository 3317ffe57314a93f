/-! the law's end: the check, the sum, and moulds that are refused -/
theorem bd_code {S : St} {ca pa sp fo cy : Int32} (h : okMould ca pa sp fo cy = false) : (p_addMould S ca pa sp fo cy).1.1 0 8 0 = 1 := by
  unfold p_addMould
  rw [if_pos h]
  exact s1_eq
section SE
variable {p : Program} {l : Launch} {e : Env} {R : Room} {s : State} {m : MethodId} {args : Array Value} {below : List Frame} {meth : Method} {c : Code} {D : va_G} {A : Nat → Prop} {Q : State → Prop}
set_option maxHeartbeats 40000000 in
set_option maxRecDepth 100000 in
theorem law_end1 (E : Cx p l s m args meth c cL_law 24 RL D A) {S : St} {a0 sa pa sc : Nat} {sh pt : Nat → Int32} {mo ma n6 kk : Int32} {h : AH} (L : LwP S a0 (twoA sa pa sh pt) h) (hne : sa ≠ pa) (P : PI S sh pt) (hF : 12 ≤ R.frames ∧ 600 ≤ R.locals) {cells slots : Nat} (hR : cells + 1000 ≤ R.cells ∧ slots + 10000 ≤ R.slots) (k : ∀ (h' : AH) (cells' slots' : Nat), LwP S a0 (fun _ => none) h' → cells' ≤ cells + 1000 → slots' ≤ slots + 10000 → J p l e R s m args below meth c D A 24 Q cells' slots' h' 1236 [(1, .ref a0), (4, .int mo), (5, .int ma), (7, .long (SUM S))] []) : J p l e R s m args below meth c D A 24 Q cells slots h 884 [(0, .ref sc), (1, .ref a0), (2, .ref sa), (3, .ref pa), (4, .int mo), (5, .int ma), (6, .int n6), (7, .int kk)] [] := by
  refine j_aload_n E dL_law_884 rfl ?_
  refine j_aload_n E dL_law_885 rfl ?_
  refine j_aload_n E dL_law_886 rfl ?_
  refine j_lookS E (hc := h) (k_sound l D L hne P) (fun _ _ z => z) (cw_L_197 E ⟨by show _ ≤ R.frames; omega, by show _ ≤ R.locals; omega, by show _ ≤ R.cells; omega, by show _ ≤ R.slots; omega, Nat.le_of_ble_eq_true rfl⟩) (q_694 E.tb) rfl dL_law_887 rfl ?_
  refine j_if_ne (tgt := 895) E dL_law_890 (by decide) (fun _ => ?_) (fun q => (show False from absurd q (by decide)).elim)
  refine j_aload_n E dL_law_895 rfl ?_
  refine j_lkS E L (fun hC0 ok => k_sum l D S a0 hC0 ok) (cw_L_167 E ⟨by show _ ≤ R.frames; omega, by show _ ≤ R.locals; omega, by show _ ≤ R.cells; omega, by show _ ≤ R.slots; omega, Nat.le_of_ble_eq_true rfl⟩) (q_687 E.tb) rfl dL_law_896 rfl ?_
  refine j_lstore E dL_law_899 (by decide) ?_
  have L : LwP S a0 (fun _ => none) h := L.less (fun p e he => nomatch he)
  refine j_bipush (v := 10) E dL_law_901 cb_10 ?_
  refine j_newqA E (q_733 E.tb) (q_734 E.tb) (N := 10) (by decide) (by decide) (by decide) ⟨by omega, by omega⟩ dL_law_903 (fun a903 h903 f903 n903 u903 => ?_)
  have L := L.new f903 n903 u903
  clear n903 u903 f903
  refine j_dup E dL_law_906 rfl ?_
  refine j_iconst (v := 0) E dL_law_907 ci_0 ?_
  refine j_iconst (v := 5) E dL_law_908 ci_5 ?_
  refine na_int E (N := 5) (by decide) (by decide) (by decide) ⟨by omega, by omega⟩ dL_law_909 (fun a909 h909 f909 n909 u909 => ?_)
  have nq0 := ne_fr (L.x hup_eq) f909
  have L := L.new f909 n909 u909
  clear n909 u909 f909
  refine j_dup E dL_law_911 rfl ?_
  refine j_iconst (v := 0) E dL_law_912 ci_0 ?_
  refine j_iconst (v := 0) E dL_law_913 ci_0 ?_
  refine s_iast E (L.x hup_eq) (vin_nI (n := 5) (k := 0) (by decide) (by decide)) dL_law_914 (fun h914 n914 u914 => ?_)
  have L := L.put1 n914 u914
  clear n914 u914
  refine j_dup E dL_law_915 rfl ?_
  refine j_iconst (v := 1) E dL_law_916 ci_1 ?_
  refine j_iconst (v := 1) E dL_law_917 ci_1 ?_
  refine s_iast E (L.x hup_eq) (vin_nI (n := 5) (k := 1) (by decide) (by decide)) dL_law_918 (fun h918 n918 u918 => ?_)
  have L := L.put1 n918 u918
  clear n918 u918
  refine j_dup E dL_law_919 rfl ?_
  refine j_iconst (v := 2) E dL_law_920 ci_2 ?_
  refine j_iconst (v := 0) E dL_law_921 ci_0 ?_
  refine s_iast E (L.x hup_eq) (vin_nI (n := 5) (k := 2) (by decide) (by decide)) dL_law_922 (fun h922 n922 u922 => ?_)
  have L := L.put1 n922 u922
  clear n922 u922
  refine j_dup E dL_law_923 rfl ?_
  refine j_iconst (v := 3) E dL_law_924 ci_3 ?_
  refine j_iconst (v := 1) E dL_law_925 ci_1 ?_
  refine s_iast E (L.x hup_eq) (vin_nI (n := 5) (k := 3) (by decide) (by decide)) dL_law_926 (fun h926 n926 u926 => ?_)
  have L := L.put1 n926 u926
  clear n926 u926
  refine j_dup E dL_law_927 rfl ?_
  refine j_iconst (v := 4) E dL_law_928 ci_4 ?_
  refine j_bipush (v := 60) E dL_law_929 cb_60 ?_
  refine s_iast E (L.x hup_eq) (vin_nI (n := 5) (k := 4) (by decide) (by decide)) dL_law_931 (fun h931 n931 u931 => ?_)
  have L := L.put1 n931 u931
  clear n931 u931
  have L := L.swap nq0
  refine s_aastA E (q_734 E.tb) (L.x hup_eq) (L.x ((hup_ne nq0.symm).trans hup_eq)) (vin_nI (n := 10) (k := 0) (by decide) (by decide)) dL_law_932 (fun h932 n932 u932 => ?_)
  have L := L.put1 n932 u932
  clear n932 u932
  refine j_dup E dL_law_933 rfl ?_
  refine j_iconst (v := 1) E dL_law_934 ci_1 ?_
  refine j_iconst (v := 5) E dL_law_935 ci_5 ?_
  refine na_int E (N := 5) (by decide) (by decide) (by decide) ⟨by omega, by omega⟩ dL_law_936 (fun a936 h936 f936 n936 u936 => ?_)
  have nq1 := ne_fr (L.x hup_eq) f936
  have nb0_1 := ne_fr (L.x ((hup_ne nq0.symm).trans (hup_eq))) f936
  have L := L.new f936 n936 u936
  clear n936 u936 f936
  refine j_dup E dL_law_938 rfl ?_
  refine j_iconst (v := 0) E dL_law_939 ci_0 ?_
  refine j_bipush (v := 9) E dL_law_940 cb_9 ?_
  refine s_iast E (L.x hup_eq) (vin_nI (n := 5) (k := 0) (by decide) (by decide)) dL_law_942 (fun h942 n942 u942 => ?_)
  have L := L.put1 n942 u942
  clear n942 u942
  refine j_dup E dL_law_943 rfl ?_
  refine j_iconst (v := 1) E dL_law_944 ci_1 ?_
  refine j_iconst (v := 1) E dL_law_945 ci_1 ?_
  refine s_iast E (L.x hup_eq) (vin_nI (n := 5) (k := 1) (by decide) (by decide)) dL_law_946 (fun h946 n946 u946 => ?_)
  have L := L.put1 n946 u946
  clear n946 u946
  refine j_dup E dL_law_947 rfl ?_
  refine j_iconst (v := 2) E dL_law_948 ci_2 ?_
  refine j_iconst (v := 0) E dL_law_949 ci_0 ?_
  refine s_iast E (L.x hup_eq) (vin_nI (n := 5) (k := 2) (by decide) (by decide)) dL_law_950 (fun h950 n950 u950 => ?_)
  have L := L.put1 n950 u950
  clear n950 u950
  refine j_dup E dL_law_951 rfl ?_
  refine j_iconst (v := 3) E dL_law_952 ci_3 ?_
  refine j_iconst (v := 1) E dL_law_953 ci_1 ?_
  refine s_iast E (L.x hup_eq) (vin_nI (n := 5) (k := 3) (by decide) (by decide)) dL_law_954 (fun h954 n954 u954 => ?_)
  have L := L.put1 n954 u954
  clear n954 u954
  refine j_dup E dL_law_955 rfl ?_
  refine j_iconst (v := 4) E dL_law_956 ci_4 ?_
  refine j_bipush (v := 60) E dL_law_957 cb_60 ?_
  refine s_iast E (L.x hup_eq) (vin_nI (n := 5) (k := 4) (by decide) (by decide)) dL_law_959 (fun h959 n959 u959 => ?_)
  have L := L.put1 n959 u959
  clear n959 u959
  have L := L.swap nq1
  refine s_aastA E (q_734 E.tb) (L.x hup_eq) (L.x ((hup_ne nq1.symm).trans hup_eq)) (vin_nI (n := 10) (k := 1) (by decide) (by decide)) dL_law_960 (fun h960 n960 u960 => ?_)
  have L := L.put1 n960 u960
  clear n960 u960
  refine j_dup E dL_law_961 rfl ?_
  refine j_iconst (v := 2) E dL_law_962 ci_2 ?_
  refine j_iconst (v := 5) E dL_law_963 ci_5 ?_
  refine na_int E (N := 5) (by decide) (by decide) (by decide) ⟨by omega, by omega⟩ dL_law_964 (fun a964 h964 f964 n964 u964 => ?_)
  have nq2 := ne_fr (L.x hup_eq) f964
  have nb0_2 := ne_fr (L.x ((hup_ne nq0.symm).trans ((hup_ne nb0_1).trans (hup_eq)))) f964
  have nb1_2 := ne_fr (L.x ((hup_ne nq1.symm).trans (hup_eq))) f964
  have L := L.new f964 n964 u964
  clear n964 u964 f964
  refine j_dup E dL_law_966 rfl ?_
  refine j_iconst (v := 0) E dL_law_967 ci_0 ?_
  refine j_iconst (v := 1) E dL_law_968 ci_1 ?_
  refine s_iast E (L.x hup_eq) (vin_nI (n := 5) (k := 0) (by decide) (by decide)) dL_law_969 (fun h969 n969 u969 => ?_)
  have L := L.put1 n969 u969
  clear n969 u969
  refine j_dup E dL_law_970 rfl ?_
  refine j_iconst (v := 1) E dL_law_971 ci_1 ?_
  refine j_iconst (v := 0) E dL_law_972 ci_0 ?_
  refine s_iast E (L.x hup_eq) (vin_nI (n := 5) (k := 1) (by decide) (by decide)) dL_law_973 (fun h973 n973 u973 => ?_)
  have L := L.put1 n973 u973
  clear n973 u973
  refine j_dup E dL_law_974 rfl ?_
  refine j_iconst (v := 2) E dL_law_975 ci_2 ?_
  refine j_iconst (v := 0) E dL_law_976 ci_0 ?_
  refine s_iast E (L.x hup_eq) (vin_nI (n := 5) (k := 2) (by decide) (by decide)) dL_law_977 (fun h977 n977 u977 => ?_)
  have L := L.put1 n977 u977
  clear n977 u977
  refine j_dup E dL_law_978 rfl ?_
  refine j_iconst (v := 3) E dL_law_979 ci_3 ?_
  refine j_iconst (v := 1) E dL_law_980 ci_1 ?_
  refine s_iast E (L.x hup_eq) (vin_nI (n := 5) (k := 3) (by decide) (by decide)) dL_law_981 (fun h981 n981 u981 => ?_)
  have L := L.put1 n981 u981
  clear n981 u981
  refine j_dup E dL_law_982 rfl ?_
  refine j_iconst (v := 4) E dL_law_983 ci_4 ?_
  refine j_bipush (v := 60) E dL_law_984 cb_60 ?_
  refine s_iast E (L.x hup_eq) (vin_nI (n := 5) (k := 4) (by decide) (by decide)) dL_law_986 (fun h986 n986 u986 => ?_)
  have L := L.put1 n986 u986
  clear n986 u986
  have L := L.swap nq2
  refine s_aastA E (q_734 E.tb) (L.x hup_eq) (L.x ((hup_ne nq2.symm).trans hup_eq)) (vin_nI (n := 10) (k := 2) (by decide) (by decide)) dL_law_987 (fun h987 n987 u987 => ?_)
  have L := L.put1 n987 u987
  clear n987 u987
  refine j_dup E dL_law_988 rfl ?_
  refine j_iconst (v := 3) E dL_law_989 ci_3 ?_
  refine j_iconst (v := 5) E dL_law_990 ci_5 ?_
  refine na_int E (N := 5) (by decide) (by decide) (by decide) ⟨by omega, by omega⟩ dL_law_991 (fun a991 h991 f991 n991 u991 => ?_)
  have nq3 := ne_fr (L.x hup_eq) f991
  have nb0_3 := ne_fr (L.x ((hup_ne nq0.symm).trans ((hup_ne nb0_2).trans ((hup_ne nb0_1).trans (hup_eq))))) f991
  have nb1_3 := ne_fr (L.x ((hup_ne nq1.symm).trans ((hup_ne nb1_2).trans (hup_eq)))) f991
  have nb2_3 := ne_fr (L.x ((hup_ne nq2.symm).trans (hup_eq))) f991
  have L := L.new f991 n991 u991
  clear n991 u991 f991
  refine j_dup E dL_law_993 rfl ?_
  refine j_iconst (v := 0) E dL_law_994 ci_0 ?_
  refine j_iconst (v := 1) E dL_law_995 ci_1 ?_
  refine s_iast E (L.x hup_eq) (vin_nI (n := 5) (k := 0) (by decide) (by decide)) dL_law_996 (fun h996 n996 u996 => ?_)
  have L := L.put1 n996 u996
  clear n996 u996
  refine j_dup E dL_law_997 rfl ?_
  refine j_iconst (v := 1) E dL_law_998 ci_1 ?_
  refine j_sipush (v := 201) E dL_law_999 cs_201 ?_
  refine s_iast E (L.x hup_eq) (vin_nI (n := 5) (k := 1) (by decide) (by decide)) dL_law_1002 (fun h1002 n1002 u1002 => ?_)
  have L := L.put1 n1002 u1002
  clear n1002 u1002
  refine j_dup E dL_law_1003 rfl ?_
  refine j_iconst (v := 2) E dL_law_1004 ci_2 ?_
  refine j_iconst (v := 0) E dL_law_1005 ci_0 ?_
  refine s_iast E (L.x hup_eq) (vin_nI (n := 5) (k := 2) (by decide) (by decide)) dL_law_1006 (fun h1006 n1006 u1006 => ?_)
  have L := L.put1 n1006 u1006
  clear n1006 u1006
  refine j_dup E dL_law_1007 rfl ?_
  refine j_iconst (v := 3) E dL_law_1008 ci_3 ?_
  refine j_iconst (v := 1) E dL_law_1009 ci_1 ?_
  refine s_iast E (L.x hup_eq) (vin_nI (n := 5) (k := 3) (by decide) (by decide)) dL_law_1010 (fun h1010 n1010 u1010 => ?_)
  have L := L.put1 n1010 u1010
  clear n1010 u1010
  refine j_dup E dL_law_1011 rfl ?_
  refine j_iconst (v := 4) E dL_law_1012 ci_4 ?_
  refine j_bipush (v := 60) E dL_law_1013 cb_60 ?_
  refine s_iast E (L.x hup_eq) (vin_nI (n := 5) (k := 4) (by decide) (by decide)) dL_law_1015 (fun h1015 n1015 u1015 => ?_)
  have L := L.put1 n1015 u1015
  clear n1015 u1015
  have L := L.swap nq3
  refine s_aastA E (q_734 E.tb) (L.x hup_eq) (L.x ((hup_ne nq3.symm).trans hup_eq)) (vin_nI (n := 10) (k := 3) (by decide) (by decide)) dL_law_1016 (fun h1016 n1016 u1016 => ?_)
  have L := L.put1 n1016 u1016
  clear n1016 u1016
  refine j_dup E dL_law_1017 rfl ?_
  refine j_iconst (v := 4) E dL_law_1018 ci_4 ?_
  refine j_iconst (v := 5) E dL_law_1019 ci_5 ?_
  refine na_int E (N := 5) (by decide) (by decide) (by decide) ⟨by omega, by omega⟩ dL_law_1020 (fun a1020 h1020 f1020 n1020 u1020 => ?_)
  have nq4 := ne_fr (L.x hup_eq) f1020
  have nb0_4 := ne_fr (L.x ((hup_ne nq0.symm).trans ((hup_ne nb0_3).trans ((hup_ne nb0_2).trans ((hup_ne nb0_1).trans (hup_eq)))))) f1020
  have nb1_4 := ne_fr (L.x ((hup_ne nq1.symm).trans ((hup_ne nb1_3).trans ((hup_ne nb1_2).trans (hup_eq))))) f1020
  have nb2_4 := ne_fr (L.x ((hup_ne nq2.symm).trans ((hup_ne nb2_3).trans (hup_eq)))) f1020
  have nb3_4 := ne_fr (L.x ((hup_ne nq3.symm).trans (hup_eq))) f1020
  have L := L.new f1020 n1020 u1020
  clear n1020 u1020 f1020
  refine j_dup E dL_law_1022 rfl ?_
  refine j_iconst (v := 0) E dL_law_1023 ci_0 ?_
  refine j_iconst (v := 1) E dL_law_1024 ci_1 ?_
  refine s_iast E (L.x hup_eq) (vin_nI (n := 5) (k := 0) (by decide) (by decide)) dL_law_1025 (fun h1025 n1025 u1025 => ?_)
  have L := L.put1 n1025 u1025
  clear n1025 u1025
  refine j_dup E dL_law_1026 rfl ?_
  refine j_iconst (v := 1) E dL_law_1027 ci_1 ?_
  refine j_iconst (v := 1) E dL_law_1028 ci_1 ?_
  refine s_iast E (L.x hup_eq) (vin_nI (n := 5) (k := 1) (by decide) (by decide)) dL_law_1029 (fun h1029 n1029 u1029 => ?_)
  have L := L.put1 n1029 u1029
  clear n1029 u1029
  refine j_dup E dL_law_1030 rfl ?_
  refine j_iconst (v := 2) E dL_law_1031 ci_2 ?_
  refine j_iconst (v := (-1)) E dL_law_1032 ci_m1 ?_
  refine s_iast E (L.x hup_eq) (vin_nI (n := 5) (k := 2) (by decide) (by decide)) dL_law_1033 (fun h1033 n1033 u1033 => ?_)
  have L := L.put1 n1033 u1033
  clear n1033 u1033
  refine j_dup E dL_law_1034 rfl ?_
  refine j_iconst (v := 3) E dL_law_1035 ci_3 ?_
  refine j_iconst (v := 1) E dL_law_1036 ci_1 ?_
  refine s_iast E (L.x hup_eq) (vin_nI (n := 5) (k := 3) (by decide) (by decide)) dL_law_1037 (fun h1037 n1037 u1037 => ?_)
  have L := L.put1 n1037 u1037
  clear n1037 u1037
  refine j_dup E dL_law_1038 rfl ?_
  refine j_iconst (v := 4) E dL_law_1039 ci_4 ?_
  refine j_bipush (v := 60) E dL_law_1040 cb_60 ?_
  refine s_iast E (L.x hup_eq) (vin_nI (n := 5) (k := 4) (by decide) (by decide)) dL_law_1042 (fun h1042 n1042 u1042 => ?_)
  have L := L.put1 n1042 u1042
  clear n1042 u1042
  have L := L.swap nq4
  refine s_aastA E (q_734 E.tb) (L.x hup_eq) (L.x ((hup_ne nq4.symm).trans hup_eq)) (vin_nI (n := 10) (k := 4) (by decide) (by decide)) dL_law_1043 (fun h1043 n1043 u1043 => ?_)
  have L := L.put1 n1043 u1043
  clear n1043 u1043
  refine j_dup E dL_law_1044 rfl ?_
  refine j_iconst (v := 5) E dL_law_1045 ci_5 ?_
  refine j_iconst (v := 5) E dL_law_1046 ci_5 ?_
  refine na_int E (N := 5) (by decide) (by decide) (by decide) ⟨by omega, by omega⟩ dL_law_1047 (fun a1047 h1047 f1047 n1047 u1047 => ?_)
  have nq5 := ne_fr (L.x hup_eq) f1047
  have nb0_5 := ne_fr (L.x ((hup_ne nq0.symm).trans ((hup_ne nb0_4).trans ((hup_ne nb0_3).trans ((hup_ne nb0_2).trans ((hup_ne nb0_1).trans (hup_eq))))))) f1047
  have nb1_5 := ne_fr (L.x ((hup_ne nq1.symm).trans ((hup_ne nb1_4).trans ((hup_ne nb1_3).trans ((hup_ne nb1_2).trans (hup_eq)))))) f1047
  have nb2_5 := ne_fr (L.x ((hup_ne nq2.symm).trans ((hup_ne nb2_4).trans ((hup_ne nb2_3).trans (hup_eq))))) f1047
  have nb3_5 := ne_fr (L.x ((hup_ne nq3.symm).trans ((hup_ne nb3_4).trans (hup_eq)))) f1047
  have nb4_5 := ne_fr (L.x ((hup_ne nq4.symm).trans (hup_eq))) f1047
  have L := L.new f1047 n1047 u1047
  clear n1047 u1047 f1047
  refine j_dup E dL_law_1049 rfl ?_
  refine j_iconst (v := 0) E dL_law_1050 ci_0 ?_
  refine j_iconst (v := 1) E dL_law_1051 ci_1 ?_
  refine s_iast E (L.x hup_eq) (vin_nI (n := 5) (k := 0) (by decide) (by decide)) dL_law_1052 (fun h1052 n1052 u1052 => ?_)
  have L := L.put1 n1052 u1052
  clear n1052 u1052
  refine j_dup E dL_law_1053 rfl ?_
  refine j_iconst (v := 1) E dL_law_1054 ci_1 ?_
  refine j_iconst (v := 1) E dL_law_1055 ci_1 ?_
  refine s_iast E (L.x hup_eq) (vin_nI (n := 5) (k := 1) (by decide) (by decide)) dL_law_1056 (fun h1056 n1056 u1056 => ?_)
  have L := L.put1 n1056 u1056
  clear n1056 u1056
  refine j_dup E dL_law_1057 rfl ?_
  refine j_iconst (v := 2) E dL_law_1058 ci_2 ?_
  refine j_sipush (v := 201) E dL_law_1059 cs_201 ?_
  refine s_iast E (L.x hup_eq) (vin_nI (n := 5) (k := 2) (by decide) (by decide)) dL_law_1062 (fun h1062 n1062 u1062 => ?_)
  have L := L.put1 n1062 u1062
  clear n1062 u1062
  refine j_dup E dL_law_1063 rfl ?_
  refine j_iconst (v := 3) E dL_law_1064 ci_3 ?_
  refine j_iconst (v := 1) E dL_law_1065 ci_1 ?_
  refine s_iast E (L.x hup_eq) (vin_nI (n := 5) (k := 3) (by decide) (by decide)) dL_law_1066 (fun h1066 n1066 u1066 => ?_)
  have L := L.put1 n1066 u1066
  clear n1066 u1066
  refine j_dup E dL_law_1067 rfl ?_
  refine j_iconst (v := 4) E dL_law_1068 ci_4 ?_
  refine j_bipush (v := 60) E dL_law_1069 cb_60 ?_
  refine s_iast E (L.x hup_eq) (vin_nI (n := 5) (k := 4) (by decide) (by decide)) dL_law_1071 (fun h1071 n1071 u1071 => ?_)
  have L := L.put1 n1071 u1071
  clear n1071 u1071
  have L := L.swap nq5
  refine s_aastA E (q_734 E.tb) (L.x hup_eq) (L.x ((hup_ne nq5.symm).trans hup_eq)) (vin_nI (n := 10) (k := 5) (by decide) (by decide)) dL_law_1072 (fun h1072 n1072 u1072 => ?_)
  have L := L.put1 n1072 u1072
  clear n1072 u1072
  refine j_dup E dL_law_1073 rfl ?_
  refine j_bipush (v := 6) E dL_law_1074 cb_6 ?_
  refine j_iconst (v := 5) E dL_law_1076 ci_5 ?_
  refine na_int E (N := 5) (by decide) (by decide) (by decide) ⟨by omega, by omega⟩ dL_law_1077 (fun a1077 h1077 f1077 n1077 u1077 => ?_)
  have nq6 := ne_fr (L.x hup_eq) f1077
  have nb0_6 := ne_fr (L.x ((hup_ne nq0.symm).trans ((hup_ne nb0_5).trans ((hup_ne nb0_4).trans ((hup_ne nb0_3).trans ((hup_ne nb0_2).trans ((hup_ne nb0_1).trans (hup_eq)))))))) f1077
  have nb1_6 := ne_fr (L.x ((hup_ne nq1.symm).trans ((hup_ne nb1_5).trans ((hup_ne nb1_4).trans ((hup_ne nb1_3).trans ((hup_ne nb1_2).trans (hup_eq))))))) f1077
  have nb2_6 := ne_fr (L.x ((hup_ne nq2.symm).trans ((hup_ne nb2_5).trans ((hup_ne nb2_4).trans ((hup_ne nb2_3).trans (hup_eq)))))) f1077
  have nb3_6 := ne_fr (L.x ((hup_ne nq3.symm).trans ((hup_ne nb3_5).trans ((hup_ne nb3_4).trans (hup_eq))))) f1077
  have nb4_6 := ne_fr (L.x ((hup_ne nq4.symm).trans ((hup_ne nb4_5).trans (hup_eq)))) f1077
  have nb5_6 := ne_fr (L.x ((hup_ne nq5.symm).trans (hup_eq))) f1077
  have L := L.new f1077 n1077 u1077
  clear n1077 u1077 f1077
  refine j_dup E dL_law_1079 rfl ?_
  refine j_iconst (v := 0) E dL_law_1080 ci_0 ?_
  refine j_iconst (v := 1) E dL_law_1081 ci_1 ?_
  refine s_iast E (L.x hup_eq) (vin_nI (n := 5) (k := 0) (by decide) (by decide)) dL_law_1082 (fun h1082 n1082 u1082 => ?_)
  have L := L.put1 n1082 u1082
  clear n1082 u1082
  refine j_dup E dL_law_1083 rfl ?_
  refine j_iconst (v := 1) E dL_law_1084 ci_1 ?_
  refine j_iconst (v := 1) E dL_law_1085 ci_1 ?_
  refine s_iast E (L.x hup_eq) (vin_nI (n := 5) (k := 1) (by decide) (by decide)) dL_law_1086 (fun h1086 n1086 u1086 => ?_)
  have L := L.put1 n1086 u1086
  clear n1086 u1086
  refine j_dup E dL_law_1087 rfl ?_
  refine j_iconst (v := 2) E dL_law_1088 ci_2 ?_
  refine j_iconst (v := 0) E dL_law_1089 ci_0 ?_
  refine s_iast E (L.x hup_eq) (vin_nI (n := 5) (k := 2) (by decide) (by decide)) dL_law_1090 (fun h1090 n1090 u1090 => ?_)
  have L := L.put1 n1090 u1090
  clear n1090 u1090
  refine j_dup E dL_law_1091 rfl ?_
  refine j_iconst (v := 3) E dL_law_1092 ci_3 ?_
  refine j_iconst (v := 0) E dL_law_1093 ci_0 ?_
  refine s_iast E (L.x hup_eq) (vin_nI (n := 5) (k := 3) (by decide) (by decide)) dL_law_1094 (fun h1094 n1094 u1094 => ?_)
  have L := L.put1 n1094 u1094
  clear n1094 u1094
  refine j_dup E dL_law_1095 rfl ?_
  refine j_iconst (v := 4) E dL_law_1096 ci_4 ?_
  refine j_bipush (v := 60) E dL_law_1097 cb_60 ?_
  refine s_iast E (L.x hup_eq) (vin_nI (n := 5) (k := 4) (by decide) (by decide)) dL_law_1099 (fun h1099 n1099 u1099 => ?_)
  have L := L.put1 n1099 u1099
  clear n1099 u1099
  have L := L.swap nq6
  refine s_aastA E (q_734 E.tb) (L.x hup_eq) (L.x ((hup_ne nq6.symm).trans hup_eq)) (vin_nI (n := 10) (k := 6) (by decide) (by decide)) dL_law_1100 (fun h1100 n1100 u1100 => ?_)
  have L := L.put1 n1100 u1100
  clear n1100 u1100
  refine j_dup E dL_law_1101 rfl ?_
  refine j_bipush (v := 7) E dL_law_1102 cb_7 ?_
  refine j_iconst (v := 5) E dL_law_1104 ci_5 ?_
  refine na_int E (N := 5) (by decide) (by decide) (by decide) ⟨by omega, by omega⟩ dL_law_1105 (fun a1105 h1105 f1105 n1105 u1105 => ?_)
  have nq7 := ne_fr (L.x hup_eq) f1105
  have nb0_7 := ne_fr (L.x ((hup_ne nq0.symm).trans ((hup_ne nb0_6).trans ((hup_ne nb0_5).trans ((hup_ne nb0_4).trans ((hup_ne nb0_3).trans ((hup_ne nb0_2).trans ((hup_ne nb0_1).trans (hup_eq))))))))) f1105
  have nb1_7 := ne_fr (L.x ((hup_ne nq1.symm).trans ((hup_ne nb1_6).trans ((hup_ne nb1_5).trans ((hup_ne nb1_4).trans ((hup_ne nb1_3).trans ((hup_ne nb1_2).trans (hup_eq)))))))) f1105
  have nb2_7 := ne_fr (L.x ((hup_ne nq2.symm).trans ((hup_ne nb2_6).trans ((hup_ne nb2_5).trans ((hup_ne nb2_4).trans ((hup_ne nb2_3).trans (hup_eq))))))) f1105
  have nb3_7 := ne_fr (L.x ((hup_ne nq3.symm).trans ((hup_ne nb3_6).trans ((hup_ne nb3_5).trans ((hup_ne nb3_4).trans (hup_eq)))))) f1105
  have nb4_7 := ne_fr (L.x ((hup_ne nq4.symm).trans ((hup_ne nb4_6).trans ((hup_ne nb4_5).trans (hup_eq))))) f1105
  have nb5_7 := ne_fr (L.x ((hup_ne nq5.symm).trans ((hup_ne nb5_6).trans (hup_eq)))) f1105
  have nb6_7 := ne_fr (L.x ((hup_ne nq6.symm).trans (hup_eq))) f1105
  have L := L.new f1105 n1105 u1105
  clear n1105 u1105 f1105
  refine j_dup E dL_law_1107 rfl ?_
  refine j_iconst (v := 0) E dL_law_1108 ci_0 ?_
  refine j_iconst (v := 1) E dL_law_1109 ci_1 ?_
  refine s_iast E (L.x hup_eq) (vin_nI (n := 5) (k := 0) (by decide) (by decide)) dL_law_1110 (fun h1110 n1110 u1110 => ?_)
  have L := L.put1 n1110 u1110
  clear n1110 u1110
  refine j_dup E dL_law_1111 rfl ?_
  refine j_iconst (v := 1) E dL_law_1112 ci_1 ?_
  refine j_iconst (v := 1) E dL_law_1113 ci_1 ?_
  refine s_iast E (L.x hup_eq) (vin_nI (n := 5) (k := 1) (by decide) (by decide)) dL_law_1114 (fun h1114 n1114 u1114 => ?_)
  have L := L.put1 n1114 u1114
  clear n1114 u1114
  refine j_dup E dL_law_1115 rfl ?_
  refine j_iconst (v := 2) E dL_law_1116 ci_2 ?_
  refine j_iconst (v := 0) E dL_law_1117 ci_0 ?_
  refine s_iast E (L.x hup_eq) (vin_nI (n := 5) (k := 2) (by decide) (by decide)) dL_law_1118 (fun h1118 n1118 u1118 => ?_)
  have L := L.put1 n1118 u1118
  clear n1118 u1118
  refine j_dup E dL_law_1119 rfl ?_
  refine j_iconst (v := 3) E dL_law_1120 ci_3 ?_
  refine j_sipush (v := 1000) E dL_law_1121 cs_1000 ?_
  refine s_iast E (L.x hup_eq) (vin_nI (n := 5) (k := 3) (by decide) (by decide)) dL_law_1124 (fun h1124 n1124 u1124 => ?_)
  have L := L.put1 n1124 u1124
  clear n1124 u1124
  refine j_dup E dL_law_1125 rfl ?_
  refine j_iconst (v := 4) E dL_law_1126 ci_4 ?_
  refine j_bipush (v := 60) E dL_law_1127 cb_60 ?_
  refine s_iast E (L.x hup_eq) (vin_nI (n := 5) (k := 4) (by decide) (by decide)) dL_law_1129 (fun h1129 n1129 u1129 => ?_)
  have L := L.put1 n1129 u1129
  clear n1129 u1129
  have L := L.swap nq7
  refine s_aastA E (q_734 E.tb) (L.x hup_eq) (L.x ((hup_ne nq7.symm).trans hup_eq)) (vin_nI (n := 10) (k := 7) (by decide) (by decide)) dL_law_1130 (fun h1130 n1130 u1130 => ?_)
  have L := L.put1 n1130 u1130
  clear n1130 u1130
  refine j_dup E dL_law_1131 rfl ?_
  refine j_bipush (v := 8) E dL_law_1132 cb_8 ?_
  refine j_iconst (v := 5) E dL_law_1134 ci_5 ?_
  refine na_int E (N := 5) (by decide) (by decide) (by decide) ⟨by omega, by omega⟩ dL_law_1135 (fun a1135 h1135 f1135 n1135 u1135 => ?_)
  have nq8 := ne_fr (L.x hup_eq) f1135
  have nb0_8 := ne_fr (L.x ((hup_ne nq0.symm).trans ((hup_ne nb0_7).trans ((hup_ne nb0_6).trans ((hup_ne nb0_5).trans ((hup_ne nb0_4).trans ((hup_ne nb0_3).trans ((hup_ne nb0_2).trans ((hup_ne nb0_1).trans (hup_eq)))))))))) f1135
  have nb1_8 := ne_fr (L.x ((hup_ne nq1.symm).trans ((hup_ne nb1_7).trans ((hup_ne nb1_6).trans ((hup_ne nb1_5).trans ((hup_ne nb1_4).trans ((hup_ne nb1_3).trans ((hup_ne nb1_2).trans (hup_eq))))))))) f1135
  have nb2_8 := ne_fr (L.x ((hup_ne nq2.symm).trans ((hup_ne nb2_7).trans ((hup_ne nb2_6).trans ((hup_ne nb2_5).trans ((hup_ne nb2_4).trans ((hup_ne nb2_3).trans (hup_eq)))))))) f1135
  have nb3_8 := ne_fr (L.x ((hup_ne nq3.symm).trans ((hup_ne nb3_7).trans ((hup_ne nb3_6).trans ((hup_ne nb3_5).trans ((hup_ne nb3_4).trans (hup_eq))))))) f1135
  have nb4_8 := ne_fr (L.x ((hup_ne nq4.symm).trans ((hup_ne nb4_7).trans ((hup_ne nb4_6).trans ((hup_ne nb4_5).trans (hup_eq)))))) f1135
  have nb5_8 := ne_fr (L.x ((hup_ne nq5.symm).trans ((hup_ne nb5_7).trans ((hup_ne nb5_6).trans (hup_eq))))) f1135
  have nb6_8 := ne_fr (L.x ((hup_ne nq6.symm).trans ((hup_ne nb6_7).trans (hup_eq)))) f1135
  have nb7_8 := ne_fr (L.x ((hup_ne nq7.symm).trans (hup_eq))) f1135
  have L := L.new f1135 n1135 u1135
  clear n1135 u1135 f1135
  refine j_dup E dL_law_1137 rfl ?_
  refine j_iconst (v := 0) E dL_law_1138 ci_0 ?_
  refine j_iconst (v := 1) E dL_law_1139 ci_1 ?_
  refine s_iast E (L.x hup_eq) (vin_nI (n := 5) (k := 0) (by decide) (by decide)) dL_law_1140 (fun h1140 n1140 u1140 => ?_)
  have L := L.put1 n1140 u1140
  clear n1140 u1140
  refine j_dup E dL_law_1141 rfl ?_
  refine j_iconst (v := 1) E dL_law_1142 ci_1 ?_
  refine j_iconst (v := 1) E dL_law_1143 ci_1 ?_
  refine s_iast E (L.x hup_eq) (vin_nI (n := 5) (k := 1) (by decide) (by decide)) dL_law_1144 (fun h1144 n1144 u1144 => ?_)
  have L := L.put1 n1144 u1144
  clear n1144 u1144
  refine j_dup E dL_law_1145 rfl ?_
  refine j_iconst (v := 2) E dL_law_1146 ci_2 ?_
  refine j_iconst (v := 0) E dL_law_1147 ci_0 ?_
  refine s_iast E (L.x hup_eq) (vin_nI (n := 5) (k := 2) (by decide) (by decide)) dL_law_1148 (fun h1148 n1148 u1148 => ?_)
  have L := L.put1 n1148 u1148
  clear n1148 u1148
  refine j_dup E dL_law_1149 rfl ?_
  refine j_iconst (v := 3) E dL_law_1150 ci_3 ?_
  refine j_iconst (v := 1) E dL_law_1151 ci_1 ?_
  refine s_iast E (L.x hup_eq) (vin_nI (n := 5) (k := 3) (by decide) (by decide)) dL_law_1152 (fun h1152 n1152 u1152 => ?_)
  have L := L.put1 n1152 u1152
  clear n1152 u1152
  refine j_dup E dL_law_1153 rfl ?_
  refine j_iconst (v := 4) E dL_law_1154 ci_4 ?_
  refine j_bipush (v := 59) E dL_law_1155 cb_59 ?_
  refine s_iast E (L.x hup_eq) (vin_nI (n := 5) (k := 4) (by decide) (by decide)) dL_law_1157 (fun h1157 n1157 u1157 => ?_)
  have L := L.put1 n1157 u1157
  clear n1157 u1157
  have L := L.swap nq8
  refine s_aastA E (q_734 E.tb) (L.x hup_eq) (L.x ((hup_ne nq8.symm).trans hup_eq)) (vin_nI (n := 10) (k := 8) (by decide) (by decide)) dL_law_1158 (fun h1158 n1158 u1158 => ?_)
  have L := L.put1 n1158 u1158
  clear n1158 u1158
  refine j_dup E dL_law_1159 rfl ?_
  refine j_bipush (v := 9) E dL_law_1160 cb_9 ?_
  refine j_iconst (v := 5) E dL_law_1162 ci_5 ?_
  refine na_int E (N := 5) (by decide) (by decide) (by decide) ⟨by omega, by omega⟩ dL_law_1163 (fun a1163 h1163 f1163 n1163 u1163 => ?_)
  have nq9 := ne_fr (L.x hup_eq) f1163
  have nb0_9 := ne_fr (L.x ((hup_ne nq0.symm).trans ((hup_ne nb0_8).trans ((hup_ne nb0_7).trans ((hup_ne nb0_6).trans ((hup_ne nb0_5).trans ((hup_ne nb0_4).trans ((hup_ne nb0_3).trans ((hup_ne nb0_2).trans ((hup_ne nb0_1).trans (hup_eq))))))))))) f1163
  have nb1_9 := ne_fr (L.x ((hup_ne nq1.symm).trans ((hup_ne nb1_8).trans ((hup_ne nb1_7).trans ((hup_ne nb1_6).trans ((hup_ne nb1_5).trans ((hup_ne nb1_4).trans ((hup_ne nb1_3).trans ((hup_ne nb1_2).trans (hup_eq)))))))))) f1163
  have nb2_9 := ne_fr (L.x ((hup_ne nq2.symm).trans ((hup_ne nb2_8).trans ((hup_ne nb2_7).trans ((hup_ne nb2_6).trans ((hup_ne nb2_5).trans ((hup_ne nb2_4).trans ((hup_ne nb2_3).trans (hup_eq))))))))) f1163
  have nb3_9 := ne_fr (L.x ((hup_ne nq3.symm).trans ((hup_ne nb3_8).trans ((hup_ne nb3_7).trans ((hup_ne nb3_6).trans ((hup_ne nb3_5).trans ((hup_ne nb3_4).trans (hup_eq)))))))) f1163
  have nb4_9 := ne_fr (L.x ((hup_ne nq4.symm).trans ((hup_ne nb4_8).trans ((hup_ne nb4_7).trans ((hup_ne nb4_6).trans ((hup_ne nb4_5).trans (hup_eq))))))) f1163
  have nb5_9 := ne_fr (L.x ((hup_ne nq5.symm).trans ((hup_ne nb5_8).trans ((hup_ne nb5_7).trans ((hup_ne nb5_6).trans (hup_eq)))))) f1163
  have nb6_9 := ne_fr (L.x ((hup_ne nq6.symm).trans ((hup_ne nb6_8).trans ((hup_ne nb6_7).trans (hup_eq))))) f1163
  have nb7_9 := ne_fr (L.x ((hup_ne nq7.symm).trans ((hup_ne nb7_8).trans (hup_eq)))) f1163
  have nb8_9 := ne_fr (L.x ((hup_ne nq8.symm).trans (hup_eq))) f1163
  have L := L.new f1163 n1163 u1163
  clear n1163 u1163 f1163
  refine j_dup E dL_law_1165 rfl ?_
  refine j_iconst (v := 0) E dL_law_1166 ci_0 ?_
  refine j_iconst (v := 1) E dL_law_1167 ci_1 ?_
  refine s_iast E (L.x hup_eq) (vin_nI (n := 5) (k := 0) (by decide) (by decide)) dL_law_1168 (fun h1168 n1168 u1168 => ?_)
  have L := L.put1 n1168 u1168
  clear n1168 u1168
  refine j_dup E dL_law_1169 rfl ?_
  refine j_iconst (v := 1) E dL_law_1170 ci_1 ?_
  refine j_iconst (v := 1) E dL_law_1171 ci_1 ?_
  refine s_iast E (L.x hup_eq) (vin_nI (n := 5) (k := 1) (by decide) (by decide)) dL_law_1172 (fun h1172 n1172 u1172 => ?_)
  have L := L.put1 n1172 u1172
  clear n1172 u1172
  refine j_dup E dL_law_1173 rfl ?_
  refine j_iconst (v := 2) E dL_law_1174 ci_2 ?_
  refine j_iconst (v := 0) E dL_law_1175 ci_0 ?_
  refine s_iast E (L.x hup_eq) (vin_nI (n := 5) (k := 2) (by decide) (by decide)) dL_law_1176 (fun h1176 n1176 u1176 => ?_)
  have L := L.put1 n1176 u1176
  clear n1176 u1176
  refine j_dup E dL_law_1177 rfl ?_
  refine j_iconst (v := 3) E dL_law_1178 ci_3 ?_
  refine j_iconst (v := 1) E dL_law_1179 ci_1 ?_
  refine s_iast E (L.x hup_eq) (vin_nI (n := 5) (k := 3) (by decide) (by decide)) dL_law_1180 (fun h1180 n1180 u1180 => ?_)
  have L := L.put1 n1180 u1180
  clear n1180 u1180
  refine j_dup E dL_law_1181 rfl ?_
  refine j_iconst (v := 4) E dL_law_1182 ci_4 ?_
  refine j_sipush (v := 3601) E dL_law_1183 cs_3601 ?_
  refine s_iast E (L.x hup_eq) (vin_nI (n := 5) (k := 4) (by decide) (by decide)) dL_law_1186 (fun h1186 n1186 u1186 => ?_)
  have L := L.put1 n1186 u1186
  clear n1186 u1186
  have L := L.swap nq9
  refine s_aastA E (q_734 E.tb) (L.x hup_eq) (L.x ((hup_ne nq9.symm).trans hup_eq)) (vin_nI (n := 10) (k := 9) (by decide) (by decide)) dL_law_1187 (fun h1187 n1187 u1187 => ?_)
  have L := L.put1 n1187 u1187
  clear n1187 u1187
  refine j_astore E dL_law_1188 (by decide) ?_
  refine j_aload E dL_law_1190 rfl ?_
  refine j_astore E dL_law_1192 (by decide) ?_
  refine j_aload E dL_law_1194 rfl ?_
  refine j_alen (v := 10) E (L.x hup_eq) rfl dL_law_1196 ?_
  refine j_istore E dL_law_1197 (by decide) ?_
  refine j_iconst (v := 0) E dL_law_1199 ci_0 ?_
  refine j_istore E dL_law_1200 (by decide) ?_
  refine J.sub (lo' := [(1, .ref a0), (4, .int mo), (5, .int ma), (7, .long (SUM S)), (10, .ref a903), (11, .int 10), (12, .int 0)]) ⟨rfl, rfl, rfl, rfl, rfl, rfl, rfl, trivial⟩ ?_
  refine j_iload E dL_law_1202 rfl ?_
  refine j_iload E dL_law_1204 rfl ?_
  refine j_icmp_ge (tgt := 1236) E dL_law_1206 (by decide) (fun q => (show False from absurd q (by decide)).elim) (fun _ => ?_)
  refine j_aload E dL_law_1209 rfl ?_
  refine j_iload E dL_law_1211 rfl ?_
  refine j_aald E (L.x hup_eq) rfl (vin_nI (n := 10) (k := 0) (by decide) (by decide)) dL_law_1213 ?_
  refine J.stk (st' := [.ref a909]) rfl ?_
  refine j_astore E dL_law_1214 (by decide) ?_
  refine j_aload_n E dL_law_1216 rfl ?_
  refine j_aload E dL_law_1217 rfl ?_
  refine j_mutA E L (r := (p_addMould S ((fup (fup (fup (fup (fup (fun _ => 0 : Nat → Int32) (Int32.toNatClampNeg 0) 0) (Int32.toNatClampNeg 1) 1) (Int32.toNatClampNeg 2) 0) (Int32.toNatClampNeg 3) 1) (Int32.toNatClampNeg 4) 60) 0) ((fup (fup (fup (fup (fup (fun _ => 0 : Nat → Int32) (Int32.toNatClampNeg 0) 0) (Int32.toNatClampNeg 1) 1) (Int32.toNatClampNeg 2) 0) (Int32.toNatClampNeg 3) 1) (Int32.toNatClampNeg 4) 60) 1) ((fup (fup (fup (fup (fup (fun _ => 0 : Nat → Int32) (Int32.toNatClampNeg 0) 0) (Int32.toNatClampNeg 1) 1) (Int32.toNatClampNeg 2) 0) (Int32.toNatClampNeg 3) 1) (Int32.toNatClampNeg 4) 60) 2) ((fup (fup (fup (fup (fup (fun _ => 0 : Nat → Int32) (Int32.toNatClampNeg 0) 0) (Int32.toNatClampNeg 1) 1) (Int32.toNatClampNeg 2) 0) (Int32.toNatClampNeg 3) 1) (Int32.toNatClampNeg 4) 60) 3) ((fup (fup (fup (fup (fup (fun _ => 0 : Nat → Int32) (Int32.toNatClampNeg 0) 0) (Int32.toNatClampNeg 1) 1) (Int32.toNatClampNeg 2) 0) (Int32.toNatClampNeg 3) 1) (Int32.toNatClampNeg 4) 60) 4))) ((hup_ne nq0.symm).trans ((hup_ne nb0_9).trans ((hup_ne nb0_8).trans ((hup_ne nb0_7).trans ((hup_ne nb0_6).trans ((hup_ne nb0_5).trans ((hup_ne nb0_4).trans ((hup_ne nb0_3).trans ((hup_ne nb0_2).trans ((hup_ne nb0_1).trans (hup_eq))))))))))) (fun hC0 ok hno => h_mould l D S a0 hC0 ok a909 (fup (fup (fup (fup (fup (fun _ => 0 : Nat → Int32) (Int32.toNatClampNeg 0) 0) (Int32.toNatClampNeg 1) 1) (Int32.toNatClampNeg 2) 0) (Int32.toNatClampNeg 3) 1) (Int32.toNatClampNeg 4) 60) hno) (cww_mould E ⟨by show _ ≤ R.frames; omega, by show _ ≤ R.locals; omega, by show _ ≤ R.cells; omega, by show _ ≤ R.slots; omega, Nat.le_of_ble_eq_true rfl⟩) (q_358 E.tb) rfl dL_law_1219 rfl (fun h1219 L => ?_)
  have hc0 : (p_addMould S ((fup (fup (fup (fup (fup (fun _ => 0 : Nat → Int32) (Int32.toNatClampNeg 0) 0) (Int32.toNatClampNeg 1) 1) (Int32.toNatClampNeg 2) 0) (Int32.toNatClampNeg 3) 1) (Int32.toNatClampNeg 4) 60) 0) ((fup (fup (fup (fup (fup (fun _ => 0 : Nat → Int32) (Int32.toNatClampNeg 0) 0) (Int32.toNatClampNeg 1) 1) (Int32.toNatClampNeg 2) 0) (Int32.toNatClampNeg 3) 1) (Int32.toNatClampNeg 4) 60) 1) ((fup (fup (fup (fup (fup (fun _ => 0 : Nat → Int32) (Int32.toNatClampNeg 0) 0) (Int32.toNatClampNeg 1) 1) (Int32.toNatClampNeg 2) 0) (Int32.toNatClampNeg 3) 1) (Int32.toNatClampNeg 4) 60) 2) ((fup (fup (fup (fup (fup (fun _ => 0 : Nat → Int32) (Int32.toNatClampNeg 0) 0) (Int32.toNatClampNeg 1) 1) (Int32.toNatClampNeg 2) 0) (Int32.toNatClampNeg 3) 1) (Int32.toNatClampNeg 4) 60) 3) ((fup (fup (fup (fup (fup (fun _ => 0 : Nat → Int32) (Int32.toNatClampNeg 0) 0) (Int32.toNatClampNeg 1) 1) (Int32.toNatClampNeg 2) 0) (Int32.toNatClampNeg 3) 1) (Int32.toNatClampNeg 4) 60) 4)).1.1 0 8 0 = 1 := bd_code (by decide +kernel)
  rw [nx_1 (by rw [hc0]; decide)] at L
  refine J.stk (st' := [.int (-1001)]) (by rw [rc_1 hc0]) ?_
  clear hc0
  refine j_sipush (v := -1001) E dL_law_1222 cs_m1001 ?_
  refine j_icmp_eq (tgt := 1230) E dL_law_1225 (by decide) (fun _ => ?_) (fun q => (q rfl).elim)
  refine j_iincK (k := 1) E ci_1 dL_law_1230 rfl (by decide) ?_
  refine j_goto (tgt := 1202) E dL_law_1233 (by decide) ?_
  rw [show (0 : Int32) + 1 = 1 from by decide]
  refine J.sub (lo' := [(1, .ref a0), (4, .int mo), (5, .int ma), (7, .long (SUM S)), (10, .ref a903), (11, .int 10), (12, .int 1)]) ⟨rfl, rfl, rfl, rfl, rfl, rfl, rfl, trivial⟩ ?_
  refine j_iload E dL_law_1202 rfl ?_
  refine j_iload E dL_law_1204 rfl ?_
  refine j_icmp_ge (tgt := 1236) E dL_law_1206 (by decide) (fun q => (show False from absurd q (by decide)).elim) (fun _ => ?_)
  refine j_aload E dL_law_1209 rfl ?_
  refine j_iload E dL_law_1211 rfl ?_
  refine j_aald E (L.x hup_eq) rfl (vin_nI (n := 10) (k := 1) (by decide) (by decide)) dL_law_1213 ?_
  refine J.stk (st' := [.ref a936]) rfl ?_
  refine j_astore E dL_law_1214 (by decide) ?_
  refine j_aload_n E dL_law_1216 rfl ?_
  refine j_aload E dL_law_1217 rfl ?_
  refine j_mutA E L (r := (p_addMould S ((fup (fup (fup (fup (fup (fun _ => 0 : Nat → Int32) (Int32.toNatClampNeg 0) 9) (Int32.toNatClampNeg 1) 1) (Int32.toNatClampNeg 2) 0) (Int32.toNatClampNeg 3) 1) (Int32.toNatClampNeg 4) 60) 0) ((fup (fup (fup (fup (fup (fun _ => 0 : Nat → Int32) (Int32.toNatClampNeg 0) 9) (Int32.toNatClampNeg 1) 1) (Int32.toNatClampNeg 2) 0) (Int32.toNatClampNeg 3) 1) (Int32.toNatClampNeg 4) 60) 1) ((fup (fup (fup (fup (fup (fun _ => 0 : Nat → Int32) (Int32.toNatClampNeg 0) 9) (Int32.toNatClampNeg 1) 1) (Int32.toNatClampNeg 2) 0) (Int32.toNatClampNeg 3) 1) (Int32.toNatClampNeg 4) 60) 2) ((fup (fup (fup (fup (fup (fun _ => 0 : Nat → Int32) (Int32.toNatClampNeg 0) 9) (Int32.toNatClampNeg 1) 1) (Int32.toNatClampNeg 2) 0) (Int32.toNatClampNeg 3) 1) (Int32.toNatClampNeg 4) 60) 3) ((fup (fup (fup (fup (fup (fun _ => 0 : Nat → Int32) (Int32.toNatClampNeg 0) 9) (Int32.toNatClampNeg 1) 1) (Int32.toNatClampNeg 2) 0) (Int32.toNatClampNeg 3) 1) (Int32.toNatClampNeg 4) 60) 4))) ((hup_ne nq1.symm).trans ((hup_ne nb1_9).trans ((hup_ne nb1_8).trans ((hup_ne nb1_7).trans ((hup_ne nb1_6).trans ((hup_ne nb1_5).trans ((hup_ne nb1_4).trans ((hup_ne nb1_3).trans ((hup_ne nb1_2).trans (hup_eq)))))))))) (fun hC0 ok hno => h_mould l D S a0 hC0 ok a936 (fup (fup (fup (fup (fup (fun _ => 0 : Nat → Int32) (Int32.toNatClampNeg 0) 9) (Int32.toNatClampNeg 1) 1) (Int32.toNatClampNeg 2) 0) (Int32.toNatClampNeg 3) 1) (Int32.toNatClampNeg 4) 60) hno) (cww_mould E ⟨by show _ ≤ R.frames; omega, by show _ ≤ R.locals; omega, by show _ ≤ R.cells; omega, by show _ ≤ R.slots; omega, Nat.le_of_ble_eq_true rfl⟩) (q_358 E.tb) rfl dL_law_1219 rfl (fun h1219 L => ?_)
  have hc1 : (p_addMould S ((fup (fup (fup (fup (fup (fun _ => 0 : Nat → Int32) (Int32.toNatClampNeg 0) 9) (Int32.toNatClampNeg 1) 1) (Int32.toNatClampNeg 2) 0) (Int32.toNatClampNeg 3) 1) (Int32.toNatClampNeg 4) 60) 0) ((fup (fup (fup (fup (fup (fun _ => 0 : Nat → Int32) (Int32.toNatClampNeg 0) 9) (Int32.toNatClampNeg 1) 1) (Int32.toNatClampNeg 2) 0) (Int32.toNatClampNeg 3) 1) (Int32.toNatClampNeg 4) 60) 1) ((fup (fup (fup (fup (fup (fun _ => 0 : Nat → Int32) (Int32.toNatClampNeg 0) 9) (Int32.toNatClampNeg 1) 1) (Int32.toNatClampNeg 2) 0) (Int32.toNatClampNeg 3) 1) (Int32.toNatClampNeg 4) 60) 2) ((fup (fup (fup (fup (fup (fun _ => 0 : Nat → Int32) (Int32.toNatClampNeg 0) 9) (Int32.toNatClampNeg 1) 1) (Int32.toNatClampNeg 2) 0) (Int32.toNatClampNeg 3) 1) (Int32.toNatClampNeg 4) 60) 3) ((fup (fup (fup (fup (fup (fun _ => 0 : Nat → Int32) (Int32.toNatClampNeg 0) 9) (Int32.toNatClampNeg 1) 1) (Int32.toNatClampNeg 2) 0) (Int32.toNatClampNeg 3) 1) (Int32.toNatClampNeg 4) 60) 4)).1.1 0 8 0 = 1 := bd_code (by decide +kernel)
  rw [nx_1 (by rw [hc1]; decide)] at L
  refine J.stk (st' := [.int (-1001)]) (by rw [rc_1 hc1]) ?_
  clear hc1
  refine j_sipush (v := -1001) E dL_law_1222 cs_m1001 ?_
  refine j_icmp_eq (tgt := 1230) E dL_law_1225 (by decide) (fun _ => ?_) (fun q => (q rfl).elim)
  refine j_iincK (k := 1) E ci_1 dL_law_1230 rfl (by decide) ?_
  refine j_goto (tgt := 1202) E dL_law_1233 (by decide) ?_
  rw [show (1 : Int32) + 1 = 2 from by decide]
  refine J.sub (lo' := [(1, .ref a0), (4, .int mo), (5, .int ma), (7, .long (SUM S)), (10, .ref a903), (11, .int 10), (12, .int 2)]) ⟨rfl, rfl, rfl, rfl, rfl, rfl, rfl, trivial⟩ ?_
  refine j_iload E dL_law_1202 rfl ?_
  refine j_iload E dL_law_1204 rfl ?_
  refine j_icmp_ge (tgt := 1236) E dL_law_1206 (by decide) (fun q => (show False from absurd q (by decide)).elim) (fun _ => ?_)
  refine j_aload E dL_law_1209 rfl ?_
  refine j_iload E dL_law_1211 rfl ?_
  refine j_aald E (L.x hup_eq) rfl (vin_nI (n := 10) (k := 2) (by decide) (by decide)) dL_law_1213 ?_
  refine J.stk (st' := [.ref a964]) rfl ?_
  refine j_astore E dL_law_1214 (by decide) ?_
  refine j_aload_n E dL_law_1216 rfl ?_
  refine j_aload E dL_law_1217 rfl ?_
  refine j_mutA E L (r := (p_addMould S ((fup (fup (fup (fup (fup (fun _ => 0 : Nat → Int32) (Int32.toNatClampNeg 0) 1) (Int32.toNatClampNeg 1) 0) (Int32.toNatClampNeg 2) 0) (Int32.toNatClampNeg 3) 1) (Int32.toNatClampNeg 4) 60) 0) ((fup (fup (fup (fup (fup (fun _ => 0 : Nat → Int32) (Int32.toNatClampNeg 0) 1) (Int32.toNatClampNeg 1) 0) (Int32.toNatClampNeg 2) 0) (Int32.toNatClampNeg 3) 1) (Int32.toNatClampNeg 4) 60) 1) ((fup (fup (fup (fup (fup (fun _ => 0 : Nat → Int32) (Int32.toNatClampNeg 0) 1) (Int32.toNatClampNeg 1) 0) (Int32.toNatClampNeg 2) 0) (Int32.toNatClampNeg 3) 1) (Int32.toNatClampNeg 4) 60) 2) ((fup (fup (fup (fup (fup (fun _ => 0 : Nat → Int32) (Int32.toNatClampNeg 0) 1) (Int32.toNatClampNeg 1) 0) (Int32.toNatClampNeg 2) 0) (Int32.toNatClampNeg 3) 1) (Int32.toNatClampNeg 4) 60) 3) ((fup (fup (fup (fup (fup (fun _ => 0 : Nat → Int32) (Int32.toNatClampNeg 0) 1) (Int32.toNatClampNeg 1) 0) (Int32.toNatClampNeg 2) 0) (Int32.toNatClampNeg 3) 1) (Int32.toNatClampNeg 4) 60) 4))) ((hup_ne nq2.symm).trans ((hup_ne nb2_9).trans ((hup_ne nb2_8).trans ((hup_ne nb2_7).trans ((hup_ne nb2_6).trans ((hup_ne nb2_5).trans ((hup_ne nb2_4).trans ((hup_ne nb2_3).trans (hup_eq))))))))) (fun hC0 ok hno => h_mould l D S a0 hC0 ok a964 (fup (fup (fup (fup (fup (fun _ => 0 : Nat → Int32) (Int32.toNatClampNeg 0) 1) (Int32.toNatClampNeg 1) 0) (Int32.toNatClampNeg 2) 0) (Int32.toNatClampNeg 3) 1) (Int32.toNatClampNeg 4) 60) hno) (cww_mould E ⟨by show _ ≤ R.frames; omega, by show _ ≤ R.locals; omega, by show _ ≤ R.cells; omega, by show _ ≤ R.slots; omega, Nat.le_of_ble_eq_true rfl⟩) (q_358 E.tb) rfl dL_law_1219 rfl (fun h1219 L => ?_)
  have hc2 : (p_addMould S ((fup (fup (fup (fup (fup (fun _ => 0 : Nat → Int32) (Int32.toNatClampNeg 0) 1) (Int32.toNatClampNeg 1) 0) (Int32.toNatClampNeg 2) 0) (Int32.toNatClampNeg 3) 1) (Int32.toNatClampNeg 4) 60) 0) ((fup (fup (fup (fup (fup (fun _ => 0 : Nat → Int32) (Int32.toNatClampNeg 0) 1) (Int32.toNatClampNeg 1) 0) (Int32.toNatClampNeg 2) 0) (Int32.toNatClampNeg 3) 1) (Int32.toNatClampNeg 4) 60) 1) ((fup (fup (fup (fup (fup (fun _ => 0 : Nat → Int32) (Int32.toNatClampNeg 0) 1) (Int32.toNatClampNeg 1) 0) (Int32.toNatClampNeg 2) 0) (Int32.toNatClampNeg 3) 1) (Int32.toNatClampNeg 4) 60) 2) ((fup (fup (fup (fup (fup (fun _ => 0 : Nat → Int32) (Int32.toNatClampNeg 0) 1) (Int32.toNatClampNeg 1) 0) (Int32.toNatClampNeg 2) 0) (Int32.toNatClampNeg 3) 1) (Int32.toNatClampNeg 4) 60) 3) ((fup (fup (fup (fup (fup (fun _ => 0 : Nat → Int32) (Int32.toNatClampNeg 0) 1) (Int32.toNatClampNeg 1) 0) (Int32.toNatClampNeg 2) 0) (Int32.toNatClampNeg 3) 1) (Int32.toNatClampNeg 4) 60) 4)).1.1 0 8 0 = 1 := bd_code (by decide +kernel)
  rw [nx_1 (by rw [hc2]; decide)] at L
  refine J.stk (st' := [.int (-1001)]) (by rw [rc_1 hc2]) ?_
  clear hc2
  refine j_sipush (v := -1001) E dL_law_1222 cs_m1001 ?_
  refine j_icmp_eq (tgt := 1230) E dL_law_1225 (by decide) (fun _ => ?_) (fun q => (q rfl).elim)
  refine j_iincK (k := 1) E ci_1 dL_law_1230 rfl (by decide) ?_
  refine j_goto (tgt := 1202) E dL_law_1233 (by decide) ?_
  rw [show (2 : Int32) + 1 = 3 from by decide]
  refine J.sub (lo' := [(1, .ref a0), (4, .int mo), (5, .int ma), (7, .long (SUM S)), (10, .ref a903), (11, .int 10), (12, .int 3)]) ⟨rfl, rfl, rfl, rfl, rfl, rfl, rfl, trivial⟩ ?_
  refine j_iload E dL_law_1202 rfl ?_
  refine j_iload E dL_law_1204 rfl ?_
  refine j_icmp_ge (tgt := 1236) E dL_law_1206 (by decide) (fun q => (show False from absurd q (by decide)).elim) (fun _ => ?_)
  refine j_aload E dL_law_1209 rfl ?_
  refine j_iload E dL_law_1211 rfl ?_
  refine j_aald E (L.x hup_eq) rfl (vin_nI (n := 10) (k := 3) (by decide) (by decide)) dL_law_1213 ?_
  refine J.stk (st' := [.ref a991]) rfl ?_
  refine j_astore E dL_law_1214 (by decide) ?_
  refine j_aload_n E dL_law_1216 rfl ?_
  refine j_aload E dL_law_1217 rfl ?_
  refine j_mutA E L (r := (p_addMould S ((fup (fup (fup (fup (fup (fun _ => 0 : Nat → Int32) (Int32.toNatClampNeg 0) 1) (Int32.toNatClampNeg 1) 201) (Int32.toNatClampNeg 2) 0) (Int32.toNatClampNeg 3) 1) (Int32.toNatClampNeg 4) 60) 0) ((fup (fup (fup (fup (fup (fun _ => 0 : Nat → Int32) (Int32.toNatClampNeg 0) 1) (Int32.toNatClampNeg 1) 201) (Int32.toNatClampNeg 2) 0) (Int32.toNatClampNeg 3) 1) (Int32.toNatClampNeg 4) 60) 1) ((fup (fup (fup (fup (fup (fun _ => 0 : Nat → Int32) (Int32.toNatClampNeg 0) 1) (Int32.toNatClampNeg 1) 201) (Int32.toNatClampNeg 2) 0) (Int32.toNatClampNeg 3) 1) (Int32.toNatClampNeg 4) 60) 2) ((fup (fup (fup (fup (fup (fun _ => 0 : Nat → Int32) (Int32.toNatClampNeg 0) 1) (Int32.toNatClampNeg 1) 201) (Int32.toNatClampNeg 2) 0) (Int32.toNatClampNeg 3) 1) (Int32.toNatClampNeg 4) 60) 3) ((fup (fup (fup (fup (fup (fun _ => 0 : Nat → Int32) (Int32.toNatClampNeg 0) 1) (Int32.toNatClampNeg 1) 201) (Int32.toNatClampNeg 2) 0) (Int32.toNatClampNeg 3) 1) (Int32.toNatClampNeg 4) 60) 4))) ((hup_ne nq3.symm).trans ((hup_ne nb3_9).trans ((hup_ne nb3_8).trans ((hup_ne nb3_7).trans ((hup_ne nb3_6).trans ((hup_ne nb3_5).trans ((hup_ne nb3_4).trans (hup_eq)))))))) (fun hC0 ok hno => h_mould l D S a0 hC0 ok a991 (fup (fup (fup (fup (fup (fun _ => 0 : Nat → Int32) (Int32.toNatClampNeg 0) 1) (Int32.toNatClampNeg 1) 201) (Int32.toNatClampNeg 2) 0) (Int32.toNatClampNeg 3) 1) (Int32.toNatClampNeg 4) 60) hno) (cww_mould E ⟨by show _ ≤ R.frames; omega, by show _ ≤ R.locals; omega, by show _ ≤ R.cells; omega, by show _ ≤ R.slots; omega, Nat.le_of_ble_eq_true rfl⟩) (q_358 E.tb) rfl dL_law_1219 rfl (fun h1219 L => ?_)
  have hc3 : (p_addMould S ((fup (fup (fup (fup (fup (fun _ => 0 : Nat → Int32) (Int32.toNatClampNeg 0) 1) (Int32.toNatClampNeg 1) 201) (Int32.toNatClampNeg 2) 0) (Int32.toNatClampNeg 3) 1) (Int32.toNatClampNeg 4) 60) 0) ((fup (fup (fup (fup (fup (fun _ => 0 : Nat → Int32) (Int32.toNatClampNeg 0) 1) (Int32.toNatClampNeg 1) 201) (Int32.toNatClampNeg 2) 0) (Int32.toNatClampNeg 3) 1) (Int32.toNatClampNeg 4) 60) 1) ((fup (fup (fup (fup (fup (fun _ => 0 : Nat → Int32) (Int32.toNatClampNeg 0) 1) (Int32.toNatClampNeg 1) 201) (Int32.toNatClampNeg 2) 0) (Int32.toNatClampNeg 3) 1) (Int32.toNatClampNeg 4) 60) 2) ((fup (fup (fup (fup (fup (fun _ => 0 : Nat → Int32) (Int32.toNatClampNeg 0) 1) (Int32.toNatClampNeg 1) 201) (Int32.toNatClampNeg 2) 0) (Int32.toNatClampNeg 3) 1) (Int32.toNatClampNeg 4) 60) 3) ((fup (fup (fup (fup (fup (fun _ => 0 : Nat → Int32) (Int32.toNatClampNeg 0) 1) (Int32.toNatClampNeg 1) 201) (Int32.toNatClampNeg 2) 0) (Int32.toNatClampNeg 3) 1) (Int32.toNatClampNeg 4) 60) 4)).1.1 0 8 0 = 1 := bd_code (by decide +kernel)
  rw [nx_1 (by rw [hc3]; decide)] at L
  refine J.stk (st' := [.int (-1001)]) (by rw [rc_1 hc3]) ?_
  clear hc3
  refine j_sipush (v := -1001) E dL_law_1222 cs_m1001 ?_
  refine j_icmp_eq (tgt := 1230) E dL_law_1225 (by decide) (fun _ => ?_) (fun q => (q rfl).elim)
  refine j_iincK (k := 1) E ci_1 dL_law_1230 rfl (by decide) ?_
  refine j_goto (tgt := 1202) E dL_law_1233 (by decide) ?_
  rw [show (3 : Int32) + 1 = 4 from by decide]
  refine J.sub (lo' := [(1, .ref a0), (4, .int mo), (5, .int ma), (7, .long (SUM S)), (10, .ref a903), (11, .int 10), (12, .int 4)]) ⟨rfl, rfl, rfl, rfl, rfl, rfl, rfl, trivial⟩ ?_
  refine j_iload E dL_law_1202 rfl ?_
  refine j_iload E dL_law_1204 rfl ?_
  refine j_icmp_ge (tgt := 1236) E dL_law_1206 (by decide) (fun q => (show False from absurd q (by decide)).elim) (fun _ => ?_)
  refine j_aload E dL_law_1209 rfl ?_
  refine j_iload E dL_law_1211 rfl ?_
  refine j_aald E (L.x hup_eq) rfl (vin_nI (n := 10) (k := 4) (by decide) (by decide)) dL_law_1213 ?_
  refine J.stk (st' := [.ref a1020]) rfl ?_
  refine j_astore E dL_law_1214 (by decide) ?_
  refine j_aload_n E dL_law_1216 rfl ?_
  refine j_aload E dL_law_1217 rfl ?_
  refine j_mutA E L (r := (p_addMould S ((fup (fup (fup (fup (fup (fun _ => 0 : Nat → Int32) (Int32.toNatClampNeg 0) 1) (Int32.toNatClampNeg 1) 1) (Int32.toNatClampNeg 2) (-1)) (Int32.toNatClampNeg 3) 1) (Int32.toNatClampNeg 4) 60) 0) ((fup (fup (fup (fup (fup (fun _ => 0 : Nat → Int32) (Int32.toNatClampNeg 0) 1) (Int32.toNatClampNeg 1) 1) (Int32.toNatClampNeg 2) (-1)) (Int32.toNatClampNeg 3) 1) (Int32.toNatClampNeg 4) 60) 1) ((fup (fup (fup (fup (fup (fun _ => 0 : Nat → Int32) (Int32.toNatClampNeg 0) 1) (Int32.toNatClampNeg 1) 1) (Int32.toNatClampNeg 2) (-1)) (Int32.toNatClampNeg 3) 1) (Int32.toNatClampNeg 4) 60) 2) ((fup (fup (fup (fup (fup (fun _ => 0 : Nat → Int32) (Int32.toNatClampNeg 0) 1) (Int32.toNatClampNeg 1) 1) (Int32.toNatClampNeg 2) (-1)) (Int32.toNatClampNeg 3) 1) (Int32.toNatClampNeg 4) 60) 3) ((fup (fup (fup (fup (fup (fun _ => 0 : Nat → Int32) (Int32.toNatClampNeg 0) 1) (Int32.toNatClampNeg 1) 1) (Int32.toNatClampNeg 2) (-1)) (Int32.toNatClampNeg 3) 1) (Int32.toNatClampNeg 4) 60) 4))) ((hup_ne nq4.symm).trans ((hup_ne nb4_9).trans ((hup_ne nb4_8).trans ((hup_ne nb4_7).trans ((hup_ne nb4_6).trans ((hup_ne nb4_5).trans (hup_eq))))))) (fun hC0 ok hno => h_mould l D S a0 hC0 ok a1020 (fup (fup (fup (fup (fup (fun _ => 0 : Nat → Int32) (Int32.toNatClampNeg 0) 1) (Int32.toNatClampNeg 1) 1) (Int32.toNatClampNeg 2) (-1)) (Int32.toNatClampNeg 3) 1) (Int32.toNatClampNeg 4) 60) hno) (cww_mould E ⟨by show _ ≤ R.frames; omega, by show _ ≤ R.locals; omega, by show _ ≤ R.cells; omega, by show _ ≤ R.slots; omega, Nat.le_of_ble_eq_true rfl⟩) (q_358 E.tb) rfl dL_law_1219 rfl (fun h1219 L => ?_)
  have hc4 : (p_addMould S ((fup (fup (fup (fup (fup (fun _ => 0 : Nat → Int32) (Int32.toNatClampNeg 0) 1) (Int32.toNatClampNeg 1) 1) (Int32.toNatClampNeg 2) (-1)) (Int32.toNatClampNeg 3) 1) (Int32.toNatClampNeg 4) 60) 0) ((fup (fup (fup (fup (fup (fun _ => 0 : Nat → Int32) (Int32.toNatClampNeg 0) 1) (Int32.toNatClampNeg 1) 1) (Int32.toNatClampNeg 2) (-1)) (Int32.toNatClampNeg 3) 1) (Int32.toNatClampNeg 4) 60) 1) ((fup (fup (fup (fup (fup (fun _ => 0 : Nat → Int32) (Int32.toNatClampNeg 0) 1) (Int32.toNatClampNeg 1) 1) (Int32.toNatClampNeg 2) (-1)) (Int32.toNatClampNeg 3) 1) (Int32.toNatClampNeg 4) 60) 2) ((fup (fup (fup (fup (fup (fun _ => 0 : Nat → Int32) (Int32.toNatClampNeg 0) 1) (Int32.toNatClampNeg 1) 1) (Int32.toNatClampNeg 2) (-1)) (Int32.toNatClampNeg 3) 1) (Int32.toNatClampNeg 4) 60) 3) ((fup (fup (fup (fup (fup (fun _ => 0 : Nat → Int32) (Int32.toNatClampNeg 0) 1) (Int32.toNatClampNeg 1) 1) (Int32.toNatClampNeg 2) (-1)) (Int32.toNatClampNeg 3) 1) (Int32.toNatClampNeg 4) 60) 4)).1.1 0 8 0 = 1 := bd_code (by decide +kernel)
  rw [nx_1 (by rw [hc4]; decide)] at L
  refine J.stk (st' := [.int (-1001)]) (by rw [rc_1 hc4]) ?_
  clear hc4
  refine j_sipush (v := -1001) E dL_law_1222 cs_m1001 ?_
  refine j_icmp_eq (tgt := 1230) E dL_law_1225 (by decide) (fun _ => ?_) (fun q => (q rfl).elim)
  refine j_iincK (k := 1) E ci_1 dL_law_1230 rfl (by decide) ?_
  refine j_goto (tgt := 1202) E dL_law_1233 (by decide) ?_
  rw [show (4 : Int32) + 1 = 5 from by decide]
  refine J.sub (lo' := [(1, .ref a0), (4, .int mo), (5, .int ma), (7, .long (SUM S)), (10, .ref a903), (11, .int 10), (12, .int 5)]) ⟨rfl, rfl, rfl, rfl, rfl, rfl, rfl, trivial⟩ ?_
  refine j_iload E dL_law_1202 rfl ?_
  refine j_iload E dL_law_1204 rfl ?_
  refine j_icmp_ge (tgt := 1236) E dL_law_1206 (by decide) (fun q => (show False from absurd q (by decide)).elim) (fun _ => ?_)
  refine j_aload E dL_law_1209 rfl ?_
  refine j_iload E dL_law_1211 rfl ?_
  refine j_aald E (L.x hup_eq) rfl (vin_nI (n := 10) (k := 5) (by decide) (by decide)) dL_law_1213 ?_
  refine J.stk (st' := [.ref a1047]) rfl ?_
  refine j_astore E dL_law_1214 (by decide) ?_
  refine j_aload_n E dL_law_1216 rfl ?_
  refine j_aload E dL_law_1217 rfl ?_
  refine j_mutA E L (r := (p_addMould S ((fup (fup (fup (fup (fup (fun _ => 0 : Nat → Int32) (Int32.toNatClampNeg 0) 1) (Int32.toNatClampNeg 1) 1) (Int32.toNatClampNeg 2) 201) (Int32.toNatClampNeg 3) 1) (Int32.toNatClampNeg 4) 60) 0) ((fup (fup (fup (fup (fup (fun _ => 0 : Nat → Int32) (Int32.toNatClampNeg 0) 1) (Int32.toNatClampNeg 1) 1) (Int32.toNatClampNeg 2) 201) (Int32.toNatClampNeg 3) 1) (Int32.toNatClampNeg 4) 60) 1) ((fup (fup (fup (fup (fup (fun _ => 0 : Nat → Int32) (Int32.toNatClampNeg 0) 1) (Int32.toNatClampNeg 1) 1) (Int32.toNatClampNeg 2) 201) (Int32.toNatClampNeg 3) 1) (Int32.toNatClampNeg 4) 60) 2) ((fup (fup (fup (fup (fup (fun _ => 0 : Nat → Int32) (Int32.toNatClampNeg 0) 1) (Int32.toNatClampNeg 1) 1) (Int32.toNatClampNeg 2) 201) (Int32.toNatClampNeg 3) 1) (Int32.toNatClampNeg 4) 60) 3) ((fup (fup (fup (fup (fup (fun _ => 0 : Nat → Int32) (Int32.toNatClampNeg 0) 1) (Int32.toNatClampNeg 1) 1) (Int32.toNatClampNeg 2) 201) (Int32.toNatClampNeg 3) 1) (Int32.toNatClampNeg 4) 60) 4))) ((hup_ne nq5.symm).trans ((hup_ne nb5_9).trans ((hup_ne nb5_8).trans ((hup_ne nb5_7).trans ((hup_ne nb5_6).trans (hup_eq)))))) (fun hC0 ok hno => h_mould l D S a0 hC0 ok a1047 (fup (fup (fup (fup (fup (fun _ => 0 : Nat → Int32) (Int32.toNatClampNeg 0) 1) (Int32.toNatClampNeg 1) 1) (Int32.toNatClampNeg 2) 201) (Int32.toNatClampNeg 3) 1) (Int32.toNatClampNeg 4) 60) hno) (cww_mould E ⟨by show _ ≤ R.frames; omega, by show _ ≤ R.locals; omega, by show _ ≤ R.cells; omega, by show _ ≤ R.slots; omega, Nat.le_of_ble_eq_true rfl⟩) (q_358 E.tb) rfl dL_law_1219 rfl (fun h1219 L => ?_)
  have hc5 : (p_addMould S ((fup (fup (fup (fup (fup (fun _ => 0 : Nat → Int32) (Int32.toNatClampNeg 0) 1) (Int32.toNatClampNeg 1) 1) (Int32.toNatClampNeg 2) 201) (Int32.toNatClampNeg 3) 1) (Int32.toNatClampNeg 4) 60) 0) ((fup (fup (fup (fup (fup (fun _ => 0 : Nat → Int32) (Int32.toNatClampNeg 0) 1) (Int32.toNatClampNeg 1) 1) (Int32.toNatClampNeg 2) 201) (Int32.toNatClampNeg 3) 1) (Int32.toNatClampNeg 4) 60) 1) ((fup (fup (fup (fup (fup (fun _ => 0 : Nat → Int32) (Int32.toNatClampNeg 0) 1) (Int32.toNatClampNeg 1) 1) (Int32.toNatClampNeg 2) 201) (Int32.toNatClampNeg 3) 1) (Int32.toNatClampNeg 4) 60) 2) ((fup (fup (fup (fup (fup (fun _ => 0 : Nat → Int32) (Int32.toNatClampNeg 0) 1) (Int32.toNatClampNeg 1) 1) (Int32.toNatClampNeg 2) 201) (Int32.toNatClampNeg 3) 1) (Int32.toNatClampNeg 4) 60) 3) ((fup (fup (fup (fup (fup (fun _ => 0 : Nat → Int32) (Int32.toNatClampNeg 0) 1) (Int32.toNatClampNeg 1) 1) (Int32.toNatClampNeg 2) 201) (Int32.toNatClampNeg 3) 1) (Int32.toNatClampNeg 4) 60) 4)).1.1 0 8 0 = 1 := bd_code (by decide +kernel)
  rw [nx_1 (by rw [hc5]; decide)] at L
  refine J.stk (st' := [.int (-1001)]) (by rw [rc_1 hc5]) ?_
  clear hc5
  refine j_sipush (v := -1001) E dL_law_1222 cs_m1001 ?_
  refine j_icmp_eq (tgt := 1230) E dL_law_1225 (by decide) (fun _ => ?_) (fun q => (q rfl).elim)
  refine j_iincK (k := 1) E ci_1 dL_law_1230 rfl (by decide) ?_
  refine j_goto (tgt := 1202) E dL_law_1233 (by decide) ?_
  rw [show (5 : Int32) + 1 = 6 from by decide]
  refine J.sub (lo' := [(1, .ref a0), (4, .int mo), (5, .int ma), (7, .long (SUM S)), (10, .ref a903), (11, .int 10), (12, .int 6)]) ⟨rfl, rfl, rfl, rfl, rfl, rfl, rfl, trivial⟩ ?_
  refine j_iload E dL_law_1202 rfl ?_
  refine j_iload E dL_law_1204 rfl ?_
  refine j_icmp_ge (tgt := 1236) E dL_law_1206 (by decide) (fun q => (show False from absurd q (by decide)).elim) (fun _ => ?_)
  refine j_aload E dL_law_1209 rfl ?_
  refine j_iload E dL_law_1211 rfl ?_
  refine j_aald E (L.x hup_eq) rfl (vin_nI (n := 10) (k := 6) (by decide) (by decide)) dL_law_1213 ?_
  refine J.stk (st' := [.ref a1077]) rfl ?_
  refine j_astore E dL_law_1214 (by decide) ?_
  refine j_aload_n E dL_law_1216 rfl ?_
  refine j_aload E dL_law_1217 rfl ?_
  refine j_mutA E L (r := (p_addMould S ((fup (fup (fup (fup (fup (fun _ => 0 : Nat → Int32) (Int32.toNatClampNeg 0) 1) (Int32.toNatClampNeg 1) 1) (Int32.toNatClampNeg 2) 0) (Int32.toNatClampNeg 3) 0) (Int32.toNatClampNeg 4) 60) 0) ((fup (fup (fup (fup (fup (fun _ => 0 : Nat → Int32) (Int32.toNatClampNeg 0) 1) (Int32.toNatClampNeg 1) 1) (Int32.toNatClampNeg 2) 0) (Int32.toNatClampNeg 3) 0) (Int32.toNatClampNeg 4) 60) 1) ((fup (fup (fup (fup (fup (fun _ => 0 : Nat → Int32) (Int32.toNatClampNeg 0) 1) (Int32.toNatClampNeg 1) 1) (Int32.toNatClampNeg 2) 0) (Int32.toNatClampNeg 3) 0) (Int32.toNatClampNeg 4) 60) 2) ((fup (fup (fup (fup (fup (fun _ => 0 : Nat → Int32) (Int32.toNatClampNeg 0) 1) (Int32.toNatClampNeg 1) 1) (Int32.toNatClampNeg 2) 0) (Int32.toNatClampNeg 3) 0) (Int32.toNatClampNeg 4) 60) 3) ((fup (fup (fup (fup (fup (fun _ => 0 : Nat → Int32) (Int32.toNatClampNeg 0) 1) (Int32.toNatClampNeg 1) 1) (Int32.toNatClampNeg 2) 0) (Int32.toNatClampNeg 3) 0) (Int32.toNatClampNeg 4) 60) 4))) ((hup_ne nq6.symm).trans ((hup_ne nb6_9).trans ((hup_ne nb6_8).trans ((hup_ne nb6_7).trans (hup_eq))))) (fun hC0 ok hno => h_mould l D S a0 hC0 ok a1077 (fup (fup (fup (fup (fup (fun _ => 0 : Nat → Int32) (Int32.toNatClampNeg 0) 1) (Int32.toNatClampNeg 1) 1) (Int32.toNatClampNeg 2) 0) (Int32.toNatClampNeg 3) 0) (Int32.toNatClampNeg 4) 60) hno) (cww_mould E ⟨by show _ ≤ R.frames; omega, by show _ ≤ R.locals; omega, by show _ ≤ R.cells; omega, by show _ ≤ R.slots; omega, Nat.le_of_ble_eq_true rfl⟩) (q_358 E.tb) rfl dL_law_1219 rfl (fun h1219 L => ?_)
  have hc6 : (p_addMould S ((fup (fup (fup (fup (fup (fun _ => 0 : Nat → Int32) (Int32.toNatClampNeg 0) 1) (Int32.toNatClampNeg 1) 1) (Int32.toNatClampNeg 2) 0) (Int32.toNatClampNeg 3) 0) (Int32.toNatClampNeg 4) 60) 0) ((fup (fup (fup (fup (fup (fun _ => 0 : Nat → Int32) (Int32.toNatClampNeg 0) 1) (Int32.toNatClampNeg 1) 1) (Int32.toNatClampNeg 2) 0) (Int32.toNatClampNeg 3) 0) (Int32.toNatClampNeg 4) 60) 1) ((fup (fup (fup (fup (fup (fun _ => 0 : Nat → Int32) (Int32.toNatClampNeg 0) 1) (Int32.toNatClampNeg 1) 1) (Int32.toNatClampNeg 2) 0) (Int32.toNatClampNeg 3) 0) (Int32.toNatClampNeg 4) 60) 2) ((fup (fup (fup (fup (fup (fun _ => 0 : Nat → Int32) (Int32.toNatClampNeg 0) 1) (Int32.toNatClampNeg 1) 1) (Int32.toNatClampNeg 2) 0) (Int32.toNatClampNeg 3) 0) (Int32.toNatClampNeg 4) 60) 3) ((fup (fup (fup (fup (fup (fun _ => 0 : Nat → Int32) (Int32.toNatClampNeg 0) 1) (Int32.toNatClampNeg 1) 1) (Int32.toNatClampNeg 2) 0) (Int32.toNatClampNeg 3) 0) (Int32.toNatClampNeg 4) 60) 4)).1.1 0 8 0 = 1 := bd_code (by decide +kernel)
  rw [nx_1 (by rw [hc6]; decide)] at L
  refine J.stk (st' := [.int (-1001)]) (by rw [rc_1 hc6]) ?_
  clear hc6
  refine j_sipush (v := -1001) E dL_law_1222 cs_m1001 ?_
  refine j_icmp_eq (tgt := 1230) E dL_law_1225 (by decide) (fun _ => ?_) (fun q => (q rfl).elim)
  refine j_iincK (k := 1) E ci_1 dL_law_1230 rfl (by decide) ?_
  refine j_goto (tgt := 1202) E dL_law_1233 (by decide) ?_
  rw [show (6 : Int32) + 1 = 7 from by decide]
  refine J.sub (lo' := [(1, .ref a0), (4, .int mo), (5, .int ma), (7, .long (SUM S)), (10, .ref a903), (11, .int 10), (12, .int 7)]) ⟨rfl, rfl, rfl, rfl, rfl, rfl, rfl, trivial⟩ ?_
  refine j_iload E dL_law_1202 rfl ?_
  refine j_iload E dL_law_1204 rfl ?_
  refine j_icmp_ge (tgt := 1236) E dL_law_1206 (by decide) (fun q => (show False from absurd q (by decide)).elim) (fun _ => ?_)
  refine j_aload E dL_law_1209 rfl ?_
  refine j_iload E dL_law_1211 rfl ?_
  refine j_aald E (L.x hup_eq) rfl (vin_nI (n := 10) (k := 7) (by decide) (by decide)) dL_law_1213 ?_
  refine J.stk (st' := [.ref a1105]) rfl ?_
  refine j_astore E dL_law_1214 (by decide) ?_
  refine j_aload_n E dL_law_1216 rfl ?_
  refine j_aload E dL_law_1217 rfl ?_
  refine j_mutA E L (r := (p_addMould S ((fup (fup (fup (fup (fup (fun _ => 0 : Nat → Int32) (Int32.toNatClampNeg 0) 1) (Int32.toNatClampNeg 1) 1) (Int32.toNatClampNeg 2) 0) (Int32.toNatClampNeg 3) 1000) (Int32.toNatClampNeg 4) 60) 0) ((fup (fup (fup (fup (fup (fun _ => 0 : Nat → Int32) (Int32.toNatClampNeg 0) 1) (Int32.toNatClampNeg 1) 1) (Int32.toNatClampNeg 2) 0) (Int32.toNatClampNeg 3) 1000) (Int32.toNatClampNeg 4) 60) 1) ((fup (fup (fup (fup (fup (fun _ => 0 : Nat → Int32) (Int32.toNatClampNeg 0) 1) (Int32.toNatClampNeg 1) 1) (Int32.toNatClampNeg 2) 0) (Int32.toNatClampNeg 3) 1000) (Int32.toNatClampNeg 4) 60) 2) ((fup (fup (fup (fup (fup (fun _ => 0 : Nat → Int32) (Int32.toNatClampNeg 0) 1) (Int32.toNatClampNeg 1) 1) (Int32.toNatClampNeg 2) 0) (Int32.toNatClampNeg 3) 1000) (Int32.toNatClampNeg 4) 60) 3) ((fup (fup (fup (fup (fup (fun _ => 0 : Nat → Int32) (Int32.toNatClampNeg 0) 1) (Int32.toNatClampNeg 1) 1) (Int32.toNatClampNeg 2) 0) (Int32.toNatClampNeg 3) 1000) (Int32.toNatClampNeg 4) 60) 4))) ((hup_ne nq7.symm).trans ((hup_ne nb7_9).trans ((hup_ne nb7_8).trans (hup_eq)))) (fun hC0 ok hno => h_mould l D S a0 hC0 ok a1105 (fup (fup (fup (fup (fup (fun _ => 0 : Nat → Int32) (Int32.toNatClampNeg 0) 1) (Int32.toNatClampNeg 1) 1) (Int32.toNatClampNeg 2) 0) (Int32.toNatClampNeg 3) 1000) (Int32.toNatClampNeg 4) 60) hno) (cww_mould E ⟨by show _ ≤ R.frames; omega, by show _ ≤ R.locals; omega, by show _ ≤ R.cells; omega, by show _ ≤ R.slots; omega, Nat.le_of_ble_eq_true rfl⟩) (q_358 E.tb) rfl dL_law_1219 rfl (fun h1219 L => ?_)
  have hc7 : (p_addMould S ((fup (fup (fup (fup (fup (fun _ => 0 : Nat → Int32) (Int32.toNatClampNeg 0) 1) (Int32.toNatClampNeg 1) 1) (Int32.toNatClampNeg 2) 0) (Int32.toNatClampNeg 3) 1000) (Int32.toNatClampNeg 4) 60) 0) ((fup (fup (fup (fup (fup (fun _ => 0 : Nat → Int32) (Int32.toNatClampNeg 0) 1) (Int32.toNatClampNeg 1) 1) (Int32.toNatClampNeg 2) 0) (Int32.toNatClampNeg 3) 1000) (Int32.toNatClampNeg 4) 60) 1) ((fup (fup (fup (fup (fup (fun _ => 0 : Nat → Int32) (Int32.toNatClampNeg 0) 1) (Int32.toNatClampNeg 1) 1) (Int32.toNatClampNeg 2) 0) (Int32.toNatClampNeg 3) 1000) (Int32.toNatClampNeg 4) 60) 2) ((fup (fup (fup (fup (fup (fun _ => 0 : Nat → Int32) (Int32.toNatClampNeg 0) 1) (Int32.toNatClampNeg 1) 1) (Int32.toNatClampNeg 2) 0) (Int32.toNatClampNeg 3) 1000) (Int32.toNatClampNeg 4) 60) 3) ((fup (fup (fup (fup (fup (fun _ => 0 : Nat → Int32) (Int32.toNatClampNeg 0) 1) (Int32.toNatClampNeg 1) 1) (Int32.toNatClampNeg 2) 0) (Int32.toNatClampNeg 3) 1000) (Int32.toNatClampNeg 4) 60) 4)).1.1 0 8 0 = 1 := bd_code (by decide +kernel)
  rw [nx_1 (by rw [hc7]; decide)] at L
  refine J.stk (st' := [.int (-1001)]) (by rw [rc_1 hc7]) ?_
  clear hc7
  refine j_sipush (v := -1001) E dL_law_1222 cs_m1001 ?_
  refine j_icmp_eq (tgt := 1230) E dL_law_1225 (by decide) (fun _ => ?_) (fun q => (q rfl).elim)
  refine j_iincK (k := 1) E ci_1 dL_law_1230 rfl (by decide) ?_
  refine j_goto (tgt := 1202) E dL_law_1233 (by decide) ?_
  rw [show (7 : Int32) + 1 = 8 from by decide]
  refine J.sub (lo' := [(1, .ref a0), (4, .int mo), (5, .int ma), (7, .long (SUM S)), (10, .ref a903), (11, .int 10), (12, .int 8)]) ⟨rfl, rfl, rfl, rfl, rfl, rfl, rfl, trivial⟩ ?_
  refine j_iload E dL_law_1202 rfl ?_
  refine j_iload E dL_law_1204 rfl ?_
  refine j_icmp_ge (tgt := 1236) E dL_law_1206 (by decide) (fun q => (show False from absurd q (by decide)).elim) (fun _ => ?_)
  refine j_aload E dL_law_1209 rfl ?_
  refine j_iload E dL_law_1211 rfl ?_
  refine j_aald E (L.x hup_eq) rfl (vin_nI (n := 10) (k := 8) (by decide) (by decide)) dL_law_1213 ?_
  refine J.stk (st' := [.ref a1135]) rfl ?_
  refine j_astore E dL_law_1214 (by decide) ?_
  refine j_aload_n E dL_law_1216 rfl ?_
  refine j_aload E dL_law_1217 rfl ?_
  refine j_mutA E L (r := (p_addMould S ((fup (fup (fup (fup (fup (fun _ => 0 : Nat → Int32) (Int32.toNatClampNeg 0) 1) (Int32.toNatClampNeg 1) 1) (Int32.toNatClampNeg 2) 0) (Int32.toNatClampNeg 3) 1) (Int32.toNatClampNeg 4) 59) 0) ((fup (fup (fup (fup (fup (fun _ => 0 : Nat → Int32) (Int32.toNatClampNeg 0) 1) (Int32.toNatClampNeg 1) 1) (Int32.toNatClampNeg 2) 0) (Int32.toNatClampNeg 3) 1) (Int32.toNatClampNeg 4) 59) 1) ((fup (fup (fup (fup (fup (fun _ => 0 : Nat → Int32) (Int32.toNatClampNeg 0) 1) (Int32.toNatClampNeg 1) 1) (Int32.toNatClampNeg 2) 0) (Int32.toNatClampNeg 3) 1) (Int32.toNatClampNeg 4) 59) 2) ((fup (fup (fup (fup (fup (fun _ => 0 : Nat → Int32) (Int32.toNatClampNeg 0) 1) (Int32.toNatClampNeg 1) 1) (Int32.toNatClampNeg 2) 0) (Int32.toNatClampNeg 3) 1) (Int32.toNatClampNeg 4) 59) 3) ((fup (fup (fup (fup (fup (fun _ => 0 : Nat → Int32) (Int32.toNatClampNeg 0) 1) (Int32.toNatClampNeg 1) 1) (Int32.toNatClampNeg 2) 0) (Int32.toNatClampNeg 3) 1) (Int32.toNatClampNeg 4) 59) 4))) ((hup_ne nq8.symm).trans ((hup_ne nb8_9).trans (hup_eq))) (fun hC0 ok hno => h_mould l D S a0 hC0 ok a1135 (fup (fup (fup (fup (fup (fun _ => 0 : Nat → Int32) (Int32.toNatClampNeg 0) 1) (Int32.toNatClampNeg 1) 1) (Int32.toNatClampNeg 2) 0) (Int32.toNatClampNeg 3) 1) (Int32.toNatClampNeg 4) 59) hno) (cww_mould E ⟨by show _ ≤ R.frames; omega, by show _ ≤ R.locals; omega, by show _ ≤ R.cells; omega, by show _ ≤ R.slots; omega, Nat.le_of_ble_eq_true rfl⟩) (q_358 E.tb) rfl dL_law_1219 rfl (fun h1219 L => ?_)
  have hc8 : (p_addMould S ((fup (fup (fup (fup (fup (fun _ => 0 : Nat → Int32) (Int32.toNatClampNeg 0) 1) (Int32.toNatClampNeg 1) 1) (Int32.toNatClampNeg 2) 0) (Int32.toNatClampNeg 3) 1) (Int32.toNatClampNeg 4) 59) 0) ((fup (fup (fup (fup (fup (fun _ => 0 : Nat → Int32) (Int32.toNatClampNeg 0) 1) (Int32.toNatClampNeg 1) 1) (Int32.toNatClampNeg 2) 0) (Int32.toNatClampNeg 3) 1) (Int32.toNatClampNeg 4) 59) 1) ((fup (fup (fup (fup (fup (fun _ => 0 : Nat → Int32) (Int32.toNatClampNeg 0) 1) (Int32.toNatClampNeg 1) 1) (Int32.toNatClampNeg 2) 0) (Int32.toNatClampNeg 3) 1) (Int32.toNatClampNeg 4) 59) 2) ((fup (fup (fup (fup (fup (fun _ => 0 : Nat → Int32) (Int32.toNatClampNeg 0) 1) (Int32.toNatClampNeg 1) 1) (Int32.toNatClampNeg 2) 0) (Int32.toNatClampNeg 3) 1) (Int32.toNatClampNeg 4) 59) 3) ((fup (fup (fup (fup (fup (fun _ => 0 : Nat → Int32) (Int32.toNatClampNeg 0) 1) (Int32.toNatClampNeg 1) 1) (Int32.toNatClampNeg 2) 0) (Int32.toNatClampNeg 3) 1) (Int32.toNatClampNeg 4) 59) 4)).1.1 0 8 0 = 1 := bd_code (by decide +kernel)
  rw [nx_1 (by rw [hc8]; decide)] at L
  refine J.stk (st' := [.int (-1001)]) (by rw [rc_1 hc8]) ?_
  clear hc8
  refine j_sipush (v := -1001) E dL_law_1222 cs_m1001 ?_
  refine j_icmp_eq (tgt := 1230) E dL_law_1225 (by decide) (fun _ => ?_) (fun q => (q rfl).elim)
  refine j_iincK (k := 1) E ci_1 dL_law_1230 rfl (by decide) ?_
  refine j_goto (tgt := 1202) E dL_law_1233 (by decide) ?_
  rw [show (8 : Int32) + 1 = 9 from by decide]
  refine J.sub (lo' := [(1, .ref a0), (4, .int mo), (5, .int ma), (7, .long (SUM S)), (10, .ref a903), (11, .int 10), (12, .int 9)]) ⟨rfl, rfl, rfl, rfl, rfl, rfl, rfl, trivial⟩ ?_
  refine j_iload E dL_law_1202 rfl ?_
  refine j_iload E dL_law_1204 rfl ?_
  refine j_icmp_ge (tgt := 1236) E dL_law_1206 (by decide) (fun q => (show False from absurd q (by decide)).elim) (fun _ => ?_)
  refine j_aload E dL_law_1209 rfl ?_
  refine j_iload E dL_law_1211 rfl ?_
  refine j_aald E (L.x hup_eq) rfl (vin_nI (n := 10) (k := 9) (by decide) (by decide)) dL_law_1213 ?_
  refine J.stk (st' := [.ref a1163]) rfl ?_
  refine j_astore E dL_law_1214 (by decide) ?_
  refine j_aload_n E dL_law_1216 rfl ?_
  refine j_aload E dL_law_1217 rfl ?_
  refine j_mutA E L (r := (p_addMould S ((fup (fup (fup (fup (fup (fun _ => 0 : Nat → Int32) (Int32.toNatClampNeg 0) 1) (Int32.toNatClampNeg 1) 1) (Int32.toNatClampNeg 2) 0) (Int32.toNatClampNeg 3) 1) (Int32.toNatClampNeg 4) 3601) 0) ((fup (fup (fup (fup (fup (fun _ => 0 : Nat → Int32) (Int32.toNatClampNeg 0) 1) (Int32.toNatClampNeg 1) 1) (Int32.toNatClampNeg 2) 0) (Int32.toNatClampNeg 3) 1) (Int32.toNatClampNeg 4) 3601) 1) ((fup (fup (fup (fup (fup (fun _ => 0 : Nat → Int32) (Int32.toNatClampNeg 0) 1) (Int32.toNatClampNeg 1) 1) (Int32.toNatClampNeg 2) 0) (Int32.toNatClampNeg 3) 1) (Int32.toNatClampNeg 4) 3601) 2) ((fup (fup (fup (fup (fup (fun _ => 0 : Nat → Int32) (Int32.toNatClampNeg 0) 1) (Int32.toNatClampNeg 1) 1) (Int32.toNatClampNeg 2) 0) (Int32.toNatClampNeg 3) 1) (Int32.toNatClampNeg 4) 3601) 3) ((fup (fup (fup (fup (fup (fun _ => 0 : Nat → Int32) (Int32.toNatClampNeg 0) 1) (Int32.toNatClampNeg 1) 1) (Int32.toNatClampNeg 2) 0) (Int32.toNatClampNeg 3) 1) (Int32.toNatClampNeg 4) 3601) 4))) ((hup_ne nq9.symm).trans (hup_eq)) (fun hC0 ok hno => h_mould l D S a0 hC0 ok a1163 (fup (fup (fup (fup (fup (fun _ => 0 : Nat → Int32) (Int32.toNatClampNeg 0) 1) (Int32.toNatClampNeg 1) 1) (Int32.toNatClampNeg 2) 0) (Int32.toNatClampNeg 3) 1) (Int32.toNatClampNeg 4) 3601) hno) (cww_mould E ⟨by show _ ≤ R.frames; omega, by show _ ≤ R.locals; omega, by show _ ≤ R.cells; omega, by show _ ≤ R.slots; omega, Nat.le_of_ble_eq_true rfl⟩) (q_358 E.tb) rfl dL_law_1219 rfl (fun h1219 L => ?_)
  have hc9 : (p_addMould S ((fup (fup (fup (fup (fup (fun _ => 0 : Nat → Int32) (Int32.toNatClampNeg 0) 1) (Int32.toNatClampNeg 1) 1) (Int32.toNatClampNeg 2) 0) (Int32.toNatClampNeg 3) 1) (Int32.toNatClampNeg 4) 3601) 0) ((fup (fup (fup (fup (fup (fun _ => 0 : Nat → Int32) (Int32.toNatClampNeg 0) 1) (Int32.toNatClampNeg 1) 1) (Int32.toNatClampNeg 2) 0) (Int32.toNatClampNeg 3) 1) (Int32.toNatClampNeg 4) 3601) 1) ((fup (fup (fup (fup (fup (fun _ => 0 : Nat → Int32) (Int32.toNatClampNeg 0) 1) (Int32.toNatClampNeg 1) 1) (Int32.toNatClampNeg 2) 0) (Int32.toNatClampNeg 3) 1) (Int32.toNatClampNeg 4) 3601) 2) ((fup (fup (fup (fup (fup (fun _ => 0 : Nat → Int32) (Int32.toNatClampNeg 0) 1) (Int32.toNatClampNeg 1) 1) (Int32.toNatClampNeg 2) 0) (Int32.toNatClampNeg 3) 1) (Int32.toNatClampNeg 4) 3601) 3) ((fup (fup (fup (fup (fup (fun _ => 0 : Nat → Int32) (Int32.toNatClampNeg 0) 1) (Int32.toNatClampNeg 1) 1) (Int32.toNatClampNeg 2) 0) (Int32.toNatClampNeg 3) 1) (Int32.toNatClampNeg 4) 3601) 4)).1.1 0 8 0 = 1 := bd_code (by decide +kernel)
  rw [nx_1 (by rw [hc9]; decide)] at L
  refine J.stk (st' := [.int (-1001)]) (by rw [rc_1 hc9]) ?_
  clear hc9
  refine j_sipush (v := -1001) E dL_law_1222 cs_m1001 ?_
  refine j_icmp_eq (tgt := 1230) E dL_law_1225 (by decide) (fun _ => ?_) (fun q => (q rfl).elim)
  refine j_iincK (k := 1) E ci_1 dL_law_1230 rfl (by decide) ?_
  refine j_goto (tgt := 1202) E dL_law_1233 (by decide) ?_
  rw [show (9 : Int32) + 1 = 10 from by decide]
  refine J.sub (lo' := [(1, .ref a0), (4, .int mo), (5, .int ma), (7, .long (SUM S)), (10, .ref a903), (11, .int 10), (12, .int 10)]) ⟨rfl, rfl, rfl, rfl, rfl, rfl, rfl, trivial⟩ ?_
  refine j_iload E dL_law_1202 rfl ?_
  refine j_iload E dL_law_1204 rfl ?_
  refine j_icmp_ge (tgt := 1236) E dL_law_1206 (by decide) (fun _ => ?_) (fun q => (show False from absurd q (by decide)).elim)
  refine J.sub (lo' := [(1, .ref a0), (4, .int mo), (5, .int ma), (7, .long (SUM S))]) ⟨rfl, rfl, rfl, rfl, trivial⟩ ?_
  exact k _ _ _ (L.less (fun p e he => nomatch he)) (by omega) (by omega)
end SE
