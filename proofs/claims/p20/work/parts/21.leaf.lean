/-! THE SMALL METHODS -/
def tb_X6_needNumber : Tb := [(0, .iload_n 0, 1, x0), (1, .ifCond .lt 8, 3, xN 9), (4, .iload_n 0, 1, x0), (5, .iload_n 1, 1, x0), (6, .if_icmp .lt 13, 3, xN 19), (9, .new 225, 10, xF 50 0 [145, 34, 227, 229]), (19, .return_, 1, x0)]
theorem chk_X6_needNumber : chkTb cX6_needNumber "HeavyHaul" false tb_X6_needNumber = true := by decide +kernel
theorem cal_X6_needNumber {l : Launch} (hl : l.stackTraces = false) (hNL : NewL l) : CallsOK l "HeavyHaul" 0 tb_X6_needNumber := callsOK_f trivial
def s_X6_needNumber : SP := aS tb_X6_needNumber 2 2 0 1
theorem ct_X6_needNumber {l : Launch} (hl : l.stackTraces = false) (hNL : NewL l) : CT l yX6_needNumber cX6_needNumber 2 none 0 1 s_X6_needNumber := CT_of hl hNL (by decide +kernel) (own := "HeavyHaul") rfl (ini := false) (fun q => nomatch q) chk_X6_needNumber (cal_X6_needNumber hl hNL) (aS_args (by decide)) aS_vc
def tb_X6_needNumber0 : Tb := [(0, .iload_n 0, 1, x0), (1, .ifCond .lt 8, 3, xN 9), (4, .iload_n 0, 1, x0), (5, .iload_n 1, 1, x0), (6, .if_icmp .lt 13, 3, xN 19), (9, .new 225, 10, xF 50 0 [145, 34, 227, 229]), (19, .return_, 1, x0)]
theorem chk_X6_needNumber0 : chkTb cX6_needNumber "HeavyHaul" false tb_X6_needNumber0 = true := by decide +kernel
theorem cal_X6_needNumber0 {l : Launch} (hl : l.stackTraces = false) (hNL : NewL l) : CallsOK l "HeavyHaul" 0 tb_X6_needNumber0 := callsOK_f trivial
def s_X6_needNumber0 : SP := aS tb_X6_needNumber0 2 2 0 0
theorem ct_X6_needNumber0 {l : Launch} (hl : l.stackTraces = false) (hNL : NewL l) : CT l yX6_needNumber cX6_needNumber 2 none 0 0 s_X6_needNumber0 := CT_of hl hNL (by decide +kernel) (own := "HeavyHaul") rfl (ini := false) (fun q => nomatch q) chk_X6_needNumber0 (cal_X6_needNumber0 hl hNL) (aS_args (by decide)) aS_vc
def tb_X6_needRange : Tb := [(0, .iload_n 0, 1, x0), (1, .iload_n 1, 1, x0), (2, .if_icmp .lt 8, 3, xN 10), (5, .iload_n 0, 1, x0), (6, .iload_n 2, 1, x0), (7, .if_icmp .le 13, 3, xN 20), (10, .new 57, 10, xF 51 0 [213, 35, 230, 61]), (20, .return_, 1, x0)]
theorem chk_X6_needRange : chkTb cX6_needRange "HeavyHaul" false tb_X6_needRange = true := by decide +kernel
theorem cal_X6_needRange {l : Launch} (hl : l.stackTraces = false) (hNL : NewL l) : CallsOK l "HeavyHaul" 0 tb_X6_needRange := callsOK_f trivial
def s_X6_needRange : SP := aS tb_X6_needRange 3 3 0 1
theorem ct_X6_needRange {l : Launch} (hl : l.stackTraces = false) (hNL : NewL l) : CT l yX6_needRange cX6_needRange 3 none 0 1 s_X6_needRange := CT_of hl hNL (by decide +kernel) (own := "HeavyHaul") rfl (ini := false) (fun q => nomatch q) chk_X6_needRange (cal_X6_needRange hl hNL) (aS_args (by decide)) aS_vc
def tb_X6_needRoom : Tb := [(0, .iload_n 0, 1, x0), (1, .iload_n 1, 1, x0), (2, .if_icmp .lt 13, 3, xN 15), (5, .new 131, 10, xF 52 0 [240, 36, 232, 135]), (15, .return_, 1, x0)]
theorem chk_X6_needRoom : chkTb cX6_needRoom "HeavyHaul" false tb_X6_needRoom = true := by decide +kernel
theorem cal_X6_needRoom {l : Launch} (hl : l.stackTraces = false) (hNL : NewL l) : CallsOK l "HeavyHaul" 0 tb_X6_needRoom := callsOK_f trivial
def s_X6_needRoom : SP := aS tb_X6_needRoom 2 2 0 1
theorem ct_X6_needRoom {l : Launch} (hl : l.stackTraces = false) (hNL : NewL l) : CT l yX6_needRoom cX6_needRoom 2 none 0 1 s_X6_needRoom := CT_of hl hNL (by decide +kernel) (own := "HeavyHaul") rfl (ini := false) (fun q => nomatch q) chk_X6_needRoom (cal_X6_needRoom hl hNL) (aS_args (by decide)) aS_vc
def tb_X6_needPeriod : Tb := [(0, .iload_n 0, 1, x0), (1, .iconst 0, 1, xI (0)), (2, .sipush 9999, 3, xI (9999)), (5, .invokestatic 64, 3, xS 3 1 s_X6_needRange), (8, .iload_n 1, 1, x0), (9, .iload_n 0, 1, x0), (10, .iconst 1, 1, xI (1)), (11, .iadd, 1, x0), (12, .sipush 9999, 3, xI (9999)), (15, .invokestatic 64, 3, xS 3 1 s_X6_needRange), (18, .return_, 1, x0)]
theorem chk_X6_needPeriod : chkTb cX6_needPeriod "HeavyHaul" false tb_X6_needPeriod = true := by decide +kernel
theorem cal_X6_needPeriod {l : Launch} (hl : l.stackTraces = false) (hNL : NewL l) : CallsOK l "HeavyHaul" 1 tb_X6_needPeriod := callsOK_f ⟨⟨_, _, 3, 0, _, (ct_X6_needRange hl hNL), ⟨List.mem_of_getElem? (i := 231) (by decide +kernel), List.mem_of_getElem? (i := 26) (by decide +kernel), List.mem_of_getElem? (i := 229) (by decide +kernel), ⟨by decide +kernel, by decide +kernel⟩, by decide +kernel, by decide⟩, List.mem_of_getElem? (i := 230) (by decide +kernel), by decide⟩, ⟨_, _, 3, 0, _, (ct_X6_needRange hl hNL), ⟨List.mem_of_getElem? (i := 231) (by decide +kernel), List.mem_of_getElem? (i := 26) (by decide +kernel), List.mem_of_getElem? (i := 229) (by decide +kernel), ⟨by decide +kernel, by decide +kernel⟩, by decide +kernel, by decide⟩, List.mem_of_getElem? (i := 230) (by decide +kernel), by decide⟩, trivial⟩
def s_X6_needPeriod : SP := aS tb_X6_needPeriod 2 2 0 2
theorem ct_X6_needPeriod {l : Launch} (hl : l.stackTraces = false) (hNL : NewL l) : CT l yX6_needPeriod cX6_needPeriod 2 none 1 2 s_X6_needPeriod := CT_of hl hNL (by decide +kernel) (own := "HeavyHaul") rfl (ini := false) (fun q => nomatch q) chk_X6_needPeriod (cal_X6_needPeriod hl hNL) (aS_args (by decide)) aS_vc
def tb_X6_isOfOneNight : Tb := [(0, .iload_n 0, 1, x0), (1, .sipush 144, 3, xI (144)), (4, .irem, 1, x0), (5, .iload_n 1, 1, x0), (6, .iadd, 1, x0), (7, .bipush 36, 2, xI (36)), (9, .if_icmp .gt 7, 3, xN 16), (12, .iconst 1, 1, xI (1)), (13, .goto 4, 3, xN 17), (16, .iconst 0, 1, xI (0)), (17, .ireturn, 1, x0)]
theorem chk_X6_isOfOneNight : chkTb cX6_isOfOneNight "HeavyHaul" false tb_X6_isOfOneNight = true := by decide +kernel
theorem cal_X6_isOfOneNight {l : Launch} (hl : l.stackTraces = false) (hNL : NewL l) : CallsOK l "HeavyHaul" 0 tb_X6_isOfOneNight := callsOK_f trivial
def s_X6_isOfOneNight : SP := aS tb_X6_isOfOneNight 2 2 2 0
theorem ct_X6_isOfOneNight {l : Launch} (hl : l.stackTraces = false) (hNL : NewL l) : CT l yX6_isOfOneNight cX6_isOfOneNight 2 (some .boolean) 0 0 s_X6_isOfOneNight := CT_of hl hNL (by decide +kernel) (own := "HeavyHaul") rfl (ini := false) (fun q => nomatch q) chk_X6_isOfOneNight (cal_X6_isOfOneNight hl hNL) (aS_args (by decide)) aS_vc
def tb_X6_mostOfAxle : Tb := [(0, .iload_n 1, 1, x0), (1, .ifCond .lt 17, 3, xN 18), (4, .iload_n 1, 1, x0), (5, .iconst 4, 1, xI (4)), (6, .if_icmp .ge 12, 3, xN 18), (9, .aload_n 0, 1, x0), (10, .getfield 17, 3, xF 7 2 [99]), (13, .iload_n 1, 1, x0), (14, .iaload, 1, x0), (15, .goto 4, 3, xN 19), (18, .iconst 0, 1, xI (0)), (19, .ireturn, 1, x0)]
theorem chk_X6_mostOfAxle : chkTb cX6_mostOfAxle "HeavyHaul" false tb_X6_mostOfAxle = true := by decide +kernel
theorem cal_X6_mostOfAxle {l : Launch} (hl : l.stackTraces = false) (hNL : NewL l) : CallsOK l "HeavyHaul" 0 tb_X6_mostOfAxle := callsOK_f trivial
def s_X6_mostOfAxle : SP := aM tb_X6_mostOfAxle 7 2 2 1 0
theorem ct_X6_mostOfAxle {l : Launch} (hl : l.stackTraces = false) (hNL : NewL l) : CT l yX6_mostOfAxle cX6_mostOfAxle 2 (some .int) 0 0 s_X6_mostOfAxle := CT_of hl hNL (by decide +kernel) (own := "HeavyHaul") rfl (ini := false) (fun q => nomatch q) chk_X6_mostOfAxle (cal_X6_mostOfAxle hl hNL) (aM_args (by decide)) aM_vc
theorem rc_X6_mostOfAxle : ∀ as S P, s_X6_mostOfAxle as S P → ∃ k i r, as = aR k i :: r ∧ ci k = 7 ∧ (obK k = true ∨ k = 13) := aM_rc
def tb_X6_hasBay : Tb := [(0, .iload_n 1, 1, x0), (1, .ifCond .lt 22, 3, xN 23), (4, .iload_n 1, 1, x0), (5, .bipush 10, 2, xI (10)), (7, .if_icmp .ge 16, 3, xN 23), (10, .aload_n 0, 1, x0), (11, .getfield 9, 3, xF 7 0 [97]), (14, .iload_n 1, 1, x0), (15, .baload, 1, x0), (16, .ifCond .eq 7, 3, xN 23), (19, .iconst 1, 1, xI (1)), (20, .goto 4, 3, xN 24), (23, .iconst 0, 1, xI (0)), (24, .ireturn, 1, x0)]
theorem chk_X6_hasBay : chkTb cX6_hasBay "HeavyHaul" false tb_X6_hasBay = true := by decide +kernel
theorem cal_X6_hasBay {l : Launch} (hl : l.stackTraces = false) (hNL : NewL l) : CallsOK l "HeavyHaul" 0 tb_X6_hasBay := callsOK_f trivial
def s_X6_hasBay : SP := aM tb_X6_hasBay 7 2 2 2 0
theorem ct_X6_hasBay {l : Launch} (hl : l.stackTraces = false) (hNL : NewL l) : CT l yX6_hasBay cX6_hasBay 2 (some .boolean) 0 0 s_X6_hasBay := CT_of hl hNL (by decide +kernel) (own := "HeavyHaul") rfl (ini := false) (fun q => nomatch q) chk_X6_hasBay (cal_X6_hasBay hl hNL) (aM_args (by decide)) aM_vc
theorem rc_X6_hasBay : ∀ as S P, s_X6_hasBay as S P → ∃ k i r, as = aR k i :: r ∧ ci k = 7 ∧ (obK k = true ∨ k = 13) := aM_rc
def tb_X1_init : Tb := [(0, .aload_n 0, 1, x0), (1, .invokespecial 1, 3, xO), (4, .aload_n 0, 1, x0), (5, .iload_n 1, 1, x0), (6, .putfield 7, 3, xF 2 0 [455]), (9, .aload_n 0, 1, x0), (10, .iload_n 2, 1, x0), (11, .putfield 13, 3, xF 2 1 [456]), (14, .return_, 1, x0)]
theorem chk_X1_init : chkTb cX1_init "HeavyHaul$Period" true tb_X1_init = true := by decide +kernel
theorem cal_X1_init {l : Launch} (hl : l.stackTraces = false) (hNL : NewL l) : CallsOK l "HeavyHaul$Period" 0 tb_X1_init := callsOK_f ⟨(List.mem_of_getElem? (i := 454) (by decide +kernel)), trivial⟩
def s_X1_init : SP := aM tb_X1_init 2 3 3 0 0
theorem ct_X1_init {l : Launch} (hl : l.stackTraces = false) (hNL : NewL l) : CT l yX1_init cX1_init 3 none 0 0 s_X1_init := CT_of hl hNL (by decide +kernel) (own := "HeavyHaul$Period") rfl (ini := true) (fun _ => rfl) chk_X1_init (cal_X1_init hl hNL) (aM_args (by decide)) aM_vc
theorem ri_X1_init : ∀ as S P, s_X1_init as S P → ∃ k i r, as = aR k i :: r ∧ (obK k = true ∨ k = 13) := aM_ri
def tb_X1_hasAll : Tb := [(0, .aload_n 0, 1, x0), (1, .getfield 7, 3, xF 2 0 [455]), (4, .iload_n 1, 1, x0), (5, .if_icmp .gt 15, 3, xN 20), (8, .iload_n 2, 1, x0), (9, .aload_n 0, 1, x0), (10, .getfield 13, 3, xF 2 1 [456]), (13, .if_icmp .gt 7, 3, xN 20), (16, .iconst 1, 1, xI (1)), (17, .goto 4, 3, xN 21), (20, .iconst 0, 1, xI (0)), (21, .ireturn, 1, x0)]
theorem chk_X1_hasAll : chkTb cX1_hasAll "HeavyHaul$Period" false tb_X1_hasAll = true := by decide +kernel
theorem cal_X1_hasAll {l : Launch} (hl : l.stackTraces = false) (hNL : NewL l) : CallsOK l "HeavyHaul$Period" 0 tb_X1_hasAll := callsOK_f trivial
def s_X1_hasAll : SP := aM tb_X1_hasAll 2 3 3 2 0
theorem ct_X1_hasAll {l : Launch} (hl : l.stackTraces = false) (hNL : NewL l) : CT l yX1_hasAll cX1_hasAll 3 (some .boolean) 0 0 s_X1_hasAll := CT_of hl hNL (by decide +kernel) (own := "HeavyHaul$Period") rfl (ini := false) (fun q => nomatch q) chk_X1_hasAll (cal_X1_hasAll hl hNL) (aM_args (by decide)) aM_vc
theorem rc_X1_hasAll : ∀ as S P, s_X1_hasAll as S P → ∃ k i r, as = aR k i :: r ∧ ci k = 2 ∧ (obK k = true ∨ k = 13) := aM_rc
def tb_X1_hasAny : Tb := [(0, .aload_n 0, 1, x0), (1, .getfield 7, 3, xF 2 0 [455]), (4, .iload_n 2, 1, x0), (5, .if_icmp .ge 15, 3, xN 20), (8, .iload_n 1, 1, x0), (9, .aload_n 0, 1, x0), (10, .getfield 13, 3, xF 2 1 [456]), (13, .if_icmp .ge 7, 3, xN 20), (16, .iconst 1, 1, xI (1)), (17, .goto 4, 3, xN 21), (20, .iconst 0, 1, xI (0)), (21, .ireturn, 1, x0)]
theorem chk_X1_hasAny : chkTb cX1_hasAny "HeavyHaul$Period" false tb_X1_hasAny = true := by decide +kernel
theorem cal_X1_hasAny {l : Launch} (hl : l.stackTraces = false) (hNL : NewL l) : CallsOK l "HeavyHaul$Period" 0 tb_X1_hasAny := callsOK_f trivial
def s_X1_hasAny : SP := aM tb_X1_hasAny 2 3 3 2 0
theorem ct_X1_hasAny {l : Launch} (hl : l.stackTraces = false) (hNL : NewL l) : CT l yX1_hasAny cX1_hasAny 3 (some .boolean) 0 0 s_X1_hasAny := CT_of hl hNL (by decide +kernel) (own := "HeavyHaul$Period") rfl (ini := false) (fun q => nomatch q) chk_X1_hasAny (cal_X1_hasAny hl hNL) (aM_args (by decide)) aM_vc
theorem rc_X1_hasAny : ∀ as S P, s_X1_hasAny as S P → ∃ k i r, as = aR k i :: r ∧ ci k = 2 ∧ (obK k = true ∨ k = 13) := aM_rc
def tb_X4_init : Tb := [(0, .aload_n 0, 1, x0), (1, .invokespecial 1, 3, xO), (4, .aload_n 0, 1, x0), (5, .iload_n 1, 1, x0), (6, .putfield 7, 3, xF 5 0 [262]), (9, .aload_n 0, 1, x0), (10, .iload_n 2, 1, x0), (11, .putfield 13, 3, xF 5 1 [264]), (14, .aload_n 0, 1, x0), (15, .iload_n 3, 1, x0), (16, .putfield 16, 3, xF 5 2 [266]), (19, .aload_n 0, 1, x0), (20, .iload 4, 2, x0), (22, .putfield 19, 3, xF 5 3 [268]), (25, .aload_n 0, 1, x0), (26, .iload 5, 2, x0), (28, .putfield 22, 3, xF 5 4 [270]), (31, .aload_n 0, 1, x0), (32, .iload 6, 2, x0), (34, .putfield 25, 3, xF 5 5 [272]), (37, .aload_n 0, 1, x0), (38, .iload 7, 2, x0), (40, .putfield 28, 3, xF 5 6 [274]), (43, .return_, 1, x0)]
theorem chk_X4_init : chkTb cX4_init "HeavyHaul$Road" true tb_X4_init = true := by decide +kernel
theorem cal_X4_init {l : Launch} (hl : l.stackTraces = false) (hNL : NewL l) : CallsOK l "HeavyHaul$Road" 0 tb_X4_init := callsOK_f ⟨(List.mem_of_getElem? (i := 261) (by decide +kernel)), trivial⟩
def s_X4_init : SP := aM tb_X4_init 5 8 8 0 0
theorem ct_X4_init {l : Launch} (hl : l.stackTraces = false) (hNL : NewL l) : CT l yX4_init cX4_init 8 none 0 0 s_X4_init := CT_of hl hNL (by decide +kernel) (own := "HeavyHaul$Road") rfl (ini := true) (fun _ => rfl) chk_X4_init (cal_X4_init hl hNL) (aM_args (by decide)) aM_vc
theorem ri_X4_init : ∀ as S P, s_X4_init as S P → ∃ k i r, as = aR k i :: r ∧ (obK k = true ∨ k = 13) := aM_ri
def tb_X4_hasBridge : Tb := [(0, .aload_n 0, 1, x0), (1, .getfield 31, 3, xF 5 7 [276]), (4, .ifCond .le 7, 3, xN 11), (7, .iconst 1, 1, xI (1)), (8, .goto 4, 3, xN 12), (11, .iconst 0, 1, xI (0)), (12, .ireturn, 1, x0)]
theorem chk_X4_hasBridge : chkTb cX4_hasBridge "HeavyHaul$Road" false tb_X4_hasBridge = true := by decide +kernel
theorem cal_X4_hasBridge {l : Launch} (hl : l.stackTraces = false) (hNL : NewL l) : CallsOK l "HeavyHaul$Road" 0 tb_X4_hasBridge := callsOK_f trivial
def s_X4_hasBridge : SP := aM tb_X4_hasBridge 5 1 1 2 0
theorem ct_X4_hasBridge {l : Launch} (hl : l.stackTraces = false) (hNL : NewL l) : CT l yX4_hasBridge cX4_hasBridge 1 (some .boolean) 0 0 s_X4_hasBridge := CT_of hl hNL (by decide +kernel) (own := "HeavyHaul$Road") rfl (ini := false) (fun q => nomatch q) chk_X4_hasBridge (cal_X4_hasBridge hl hNL) (aM_args (by decide)) aM_vc
theorem rc_X4_hasBridge : ∀ as S P, s_X4_hasBridge as S P → ∃ k i r, as = aR k i :: r ∧ ci k = 5 ∧ (obK k = true ∨ k = 13) := aM_rc
def tb_X4_endsAt : Tb := [(0, .iload_n 1, 1, x0), (1, .aload_n 0, 1, x0), (2, .getfield 7, 3, xF 5 0 [262]), (5, .if_icmp .eq 11, 3, xN 16), (8, .iload_n 1, 1, x0), (9, .aload_n 0, 1, x0), (10, .getfield 13, 3, xF 5 1 [264]), (13, .if_icmp .ne 7, 3, xN 20), (16, .iconst 1, 1, xI (1)), (17, .goto 4, 3, xN 21), (20, .iconst 0, 1, xI (0)), (21, .ireturn, 1, x0)]
theorem chk_X4_endsAt : chkTb cX4_endsAt "HeavyHaul$Road" false tb_X4_endsAt = true := by decide +kernel
theorem cal_X4_endsAt {l : Launch} (hl : l.stackTraces = false) (hNL : NewL l) : CallsOK l "HeavyHaul$Road" 0 tb_X4_endsAt := callsOK_f trivial
def s_X4_endsAt : SP := aM tb_X4_endsAt 5 2 2 2 0
theorem ct_X4_endsAt {l : Launch} (hl : l.stackTraces = false) (hNL : NewL l) : CT l yX4_endsAt cX4_endsAt 2 (some .boolean) 0 0 s_X4_endsAt := CT_of hl hNL (by decide +kernel) (own := "HeavyHaul$Road") rfl (ini := false) (fun q => nomatch q) chk_X4_endsAt (cal_X4_endsAt hl hNL) (aM_args (by decide)) aM_vc
theorem rc_X4_endsAt : ∀ as S P, s_X4_endsAt as S P → ∃ k i r, as = aR k i :: r ∧ ci k = 5 ∧ (obK k = true ∨ k = 13) := aM_rc
def tb_X4_endBeyond : Tb := [(0, .iload_n 1, 1, x0), (1, .aload_n 0, 1, x0), (2, .getfield 7, 3, xF 5 0 [262]), (5, .if_icmp .ne 10, 3, xN 15), (8, .aload_n 0, 1, x0), (9, .getfield 13, 3, xF 5 1 [264]), (12, .goto 7, 3, xN 19), (15, .aload_n 0, 1, x0), (16, .getfield 7, 3, xF 5 0 [262]), (19, .ireturn, 1, x0)]
theorem chk_X4_endBeyond : chkTb cX4_endBeyond "HeavyHaul$Road" false tb_X4_endBeyond = true := by decide +kernel
theorem cal_X4_endBeyond {l : Launch} (hl : l.stackTraces = false) (hNL : NewL l) : CallsOK l "HeavyHaul$Road" 0 tb_X4_endBeyond := callsOK_f trivial
def s_X4_endBeyond : SP := aM tb_X4_endBeyond 5 2 2 1 0
theorem ct_X4_endBeyond {l : Launch} (hl : l.stackTraces = false) (hNL : NewL l) : CT l yX4_endBeyond cX4_endBeyond 2 (some .int) 0 0 s_X4_endBeyond := CT_of hl hNL (by decide +kernel) (own := "HeavyHaul$Road") rfl (ini := false) (fun q => nomatch q) chk_X4_endBeyond (cal_X4_endBeyond hl hNL) (aM_args (by decide)) aM_vc
theorem rc_X4_endBeyond : ∀ as S P, s_X4_endBeyond as S P → ∃ k i r, as = aR k i :: r ∧ ci k = 5 ∧ (obK k = true ∨ k = 13) := aM_rc
def tb_X5_init : Tb := [(0, .aload_n 0, 1, x0), (1, .invokespecial 1, 3, xO), (4, .aload_n 0, 1, x0), (5, .iload_n 1, 1, x0), (6, .putfield 7, 3, xF 6 0 [551]), (9, .aload_n 0, 1, x0), (10, .iload_n 2, 1, x0), (11, .putfield 13, 3, xF 6 1 [553]), (14, .aload_n 0, 1, x0), (15, .iload_n 3, 1, x0), (16, .putfield 16, 3, xF 6 2 [555]), (19, .aload_n 0, 1, x0), (20, .aload 4, 2, x0), (22, .putfield 19, 3, xF 6 3 [557]), (25, .return_, 1, x0)]
theorem chk_X5_init : chkTb cX5_init "HeavyHaul$Work" true tb_X5_init = true := by decide +kernel
theorem cal_X5_init {l : Launch} (hl : l.stackTraces = false) (hNL : NewL l) : CallsOK l "HeavyHaul$Work" 0 tb_X5_init := callsOK_f ⟨(List.mem_of_getElem? (i := 550) (by decide +kernel)), trivial⟩
def s_X5_init : SP := aM tb_X5_init 6 5 5 0 0
theorem ct_X5_init {l : Launch} (hl : l.stackTraces = false) (hNL : NewL l) : CT l yX5_init cX5_init 5 none 0 0 s_X5_init := CT_of hl hNL (by decide +kernel) (own := "HeavyHaul$Work") rfl (ini := true) (fun _ => rfl) chk_X5_init (cal_X5_init hl hNL) (aM_args (by decide)) aM_vc
theorem ri_X5_init : ∀ as S P, s_X5_init as S P → ∃ k i r, as = aR k i :: r ∧ (obK k = true ∨ k = 13) := aM_ri
def tb_X2_init : Tb := [(0, .aload_n 0, 1, x0), (1, .invokespecial 1, 3, xO), (4, .aload_n 0, 1, x0), (5, .iload_n 1, 1, x0), (6, .putfield 7, 3, xF 3 0 [486]), (9, .aload_n 0, 1, x0), (10, .iload_n 2, 1, x0), (11, .putfield 13, 3, xF 3 1 [488]), (14, .aload_n 0, 1, x0), (15, .aload_n 3, 1, x0), (16, .putfield 16, 3, xF 3 2 [490]), (19, .return_, 1, x0)]
theorem chk_X2_init : chkTb cX2_init "HeavyHaul$Permit" true tb_X2_init = true := by decide +kernel
theorem cal_X2_init {l : Launch} (hl : l.stackTraces = false) (hNL : NewL l) : CallsOK l "HeavyHaul$Permit" 0 tb_X2_init := callsOK_f ⟨(List.mem_of_getElem? (i := 485) (by decide +kernel)), trivial⟩
def s_X2_init : SP := aM tb_X2_init 3 4 4 0 0
theorem ct_X2_init {l : Launch} (hl : l.stackTraces = false) (hNL : NewL l) : CT l yX2_init cX2_init 4 none 0 0 s_X2_init := CT_of hl hNL (by decide +kernel) (own := "HeavyHaul$Permit") rfl (ini := true) (fun _ => rfl) chk_X2_init (cal_X2_init hl hNL) (aM_args (by decide)) aM_vc
theorem ri_X2_init : ∀ as S P, s_X2_init as S P → ∃ k i r, as = aR k i :: r ∧ (obK k = true ∨ k = 13) := aM_ri
def tb_X0_init : Tb := [(0, .aload_n 0, 1, x0), (1, .invokespecial 1, 3, xO), (4, .aload_n 0, 1, x0), (5, .iload_n 1, 1, x0), (6, .putfield 7, 3, xF 1 0 [466]), (9, .aload_n 0, 1, x0), (10, .aload_n 2, 1, x0), (11, .putfield 13, 3, xF 1 1 [468]), (14, .return_, 1, x0)]
theorem chk_X0_init : chkTb cX0_init "HeavyHaul$Embargo" true tb_X0_init = true := by decide +kernel
theorem cal_X0_init {l : Launch} (hl : l.stackTraces = false) (hNL : NewL l) : CallsOK l "HeavyHaul$Embargo" 0 tb_X0_init := callsOK_f ⟨(List.mem_of_getElem? (i := 465) (by decide +kernel)), trivial⟩
def s_X0_init : SP := aM tb_X0_init 1 3 3 0 0
theorem ct_X0_init {l : Launch} (hl : l.stackTraces = false) (hNL : NewL l) : CT l yX0_init cX0_init 3 none 0 0 s_X0_init := CT_of hl hNL (by decide +kernel) (own := "HeavyHaul$Embargo") rfl (ini := true) (fun _ => rfl) chk_X0_init (cal_X0_init hl hNL) (aM_args (by decide)) aM_vc
theorem ri_X0_init : ∀ as S P, s_X0_init as S P → ∃ k i r, as = aR k i :: r ∧ (obK k = true ∨ k = 13) := aM_ri
def tb_X3_init : Tb := [(0, .aload_n 0, 1, x0), (1, .invokespecial 3, 3, xO), (4, .aload_n 0, 1, x0), (5, .iconst (-1), 1, xI (-1)), (6, .putfield 9, 3, xF 4 9 [386]), (9, .aload_n 0, 1, x0), (10, .iconst (-1), 1, xI (-1)), (11, .putfield 15, 3, xF 4 10 [388]), (14, .aload_n 0, 1, x0), (15, .iload_n 1, 1, x0), (16, .putfield 18, 3, xF 4 8 [384]), (19, .aload_n 0, 1, x0), (20, .iload_n 2, 1, x0), (21, .putfield 21, 3, xF 4 0 [371]), (24, .aload_n 0, 1, x0), (25, .iload_n 3, 1, x0), (26, .putfield 24, 3, xF 4 1 [373]), (29, .aload_n 0, 1, x0), (30, .iload 4, 2, x0), (32, .putfield 27, 3, xF 4 2 [375]), (35, .aload_n 0, 1, x0), (36, .iload 5, 2, x0), (38, .putfield 30, 3, xF 4 3 [377]), (41, .aload_n 0, 1, x0), (42, .iload 6, 2, x0), (44, .putfield 33, 3, xF 4 4 [379]), (47, .aload_n 0, 1, x0), (48, .iload 7, 2, x0), (50, .putfield 36, 3, xF 4 5 [381]), (53, .return_, 1, x0)]
theorem chk_X3_init : chkTb cX3_init "HeavyHaul$Rig" true tb_X3_init = true := by decide +kernel
theorem cal_X3_init {l : Launch} (hl : l.stackTraces = false) (hNL : NewL l) : CallsOK l "HeavyHaul$Rig" 0 tb_X3_init := callsOK_f ⟨(List.mem_of_getElem? (i := 370) (by decide +kernel)), trivial⟩
def s_X3_init : SP := aM tb_X3_init 4 8 8 0 0
theorem ct_X3_init {l : Launch} (hl : l.stackTraces = false) (hNL : NewL l) : CT l yX3_init cX3_init 8 none 0 0 s_X3_init := CT_of hl hNL (by decide +kernel) (own := "HeavyHaul$Rig") rfl (ini := true) (fun _ => rfl) chk_X3_init (cal_X3_init hl hNL) (aM_args (by decide)) aM_vc
theorem ri_X3_init : ∀ as S P, s_X3_init as S P → ∃ k i r, as = aR k i :: r ∧ (obK k = true ∨ k = 13) := aM_ri
def tb_X3_base : Tb := [(0, .aload_n 0, 1, x0), (1, .getfield 21, 3, xF 4 0 [371]), (4, .aload_n 0, 1, x0), (5, .getfield 24, 3, xF 4 1 [373]), (8, .imul, 1, x0), (9, .ireturn, 1, x0)]
theorem chk_X3_base : chkTb cX3_base "HeavyHaul$Rig" false tb_X3_base = true := by decide +kernel
theorem cal_X3_base {l : Launch} (hl : l.stackTraces = false) (hNL : NewL l) : CallsOK l "HeavyHaul$Rig" 0 tb_X3_base := callsOK_f trivial
def s_X3_base : SP := aM tb_X3_base 4 1 1 1 0
theorem ct_X3_base {l : Launch} (hl : l.stackTraces = false) (hNL : NewL l) : CT l yX3_base cX3_base 1 (some .int) 0 0 s_X3_base := CT_of hl hNL (by decide +kernel) (own := "HeavyHaul$Rig") rfl (ini := false) (fun q => nomatch q) chk_X3_base (cal_X3_base hl hNL) (aM_args (by decide)) aM_vc
theorem rc_X3_base : ∀ as S P, s_X3_base as S P → ∃ k i r, as = aR k i :: r ∧ ci k = 4 ∧ (obK k = true ∨ k = 13) := aM_rc
def tb_X3_leverOf : Tb := [(0, .iconst 2, 1, xI (2)), (1, .iload_n 1, 1, x0), (2, .imul, 1, x0), (3, .aload_n 0, 1, x0), (4, .getfield 21, 3, xF 4 0 [371]), (7, .iconst 2, 1, xI (2)), (8, .idiv, 1, x0), (9, .iconst 1, 1, xI (1)), (10, .isub, 1, x0), (11, .aload_n 0, 1, x0), (12, .getfield 24, 3, xF 4 1 [373]), (15, .imul, 1, x0), (16, .isub, 1, x0), (17, .ireturn, 1, x0)]
theorem chk_X3_leverOf : chkTb cX3_leverOf "HeavyHaul$Rig" false tb_X3_leverOf = true := by decide +kernel
theorem cal_X3_leverOf {l : Launch} (hl : l.stackTraces = false) (hNL : NewL l) : CallsOK l "HeavyHaul$Rig" 0 tb_X3_leverOf := callsOK_f trivial
def s_X3_leverOf : SP := aM tb_X3_leverOf 4 2 2 1 0
theorem ct_X3_leverOf {l : Launch} (hl : l.stackTraces = false) (hNL : NewL l) : CT l yX3_leverOf cX3_leverOf 2 (some .int) 0 0 s_X3_leverOf := CT_of hl hNL (by decide +kernel) (own := "HeavyHaul$Rig") rfl (ini := false) (fun q => nomatch q) chk_X3_leverOf (cal_X3_leverOf hl hNL) (aM_args (by decide)) aM_vc
theorem rc_X3_leverOf : ∀ as S P, s_X3_leverOf as S P → ∃ k i r, as = aR k i :: r ∧ ci k = 4 ∧ (obK k = true ∨ k = 13) := aM_rc
def tb_X3_canTake : Tb := [(0, .iload_n 1, 1, x0), (1, .ifCond .eq 23, 3, xN 24), (4, .aload_n 0, 1, x0), (5, .iload_n 2, 1, x0), (6, .invokevirtual 39, 3, xS 2 0 s_X3_leverOf), (9, .ifCond .lt 19, 3, xN 28), (12, .aload_n 0, 1, x0), (13, .iload_n 2, 1, x0), (14, .invokevirtual 39, 3, xS 2 0 s_X3_leverOf), (17, .aload_n 0, 1, x0), (18, .invokevirtual 43, 3, xS 1 0 s_X3_base), (21, .if_icmp .gt 7, 3, xN 28), (24, .iconst 1, 1, xI (1)), (25, .goto 4, 3, xN 29), (28, .iconst 0, 1, xI (0)), (29, .ireturn, 1, x0)]
theorem chk_X3_canTake : chkTb cX3_canTake "HeavyHaul$Rig" false tb_X3_canTake = true := by decide +kernel
theorem cal_X3_canTake {l : Launch} (hl : l.stackTraces = false) (hNL : NewL l) : CallsOK l "HeavyHaul$Rig" 1 tb_X3_canTake := callsOK_f ⟨⟨_, _, 2, 0, _, 4, (ct_X3_leverOf hl hNL), ⟨List.mem_of_getElem? (i := 431) (by decide +kernel), List.mem_of_getElem? (i := 41) (by decide +kernel), List.mem_of_getElem? (i := 428) (by decide +kernel), ⟨by decide +kernel, by decide +kernel⟩, by decide +kernel, by decide⟩, List.mem_of_getElem? (i := 430) (by decide +kernel), List.mem_of_getElem? (i := 5) (by decide +kernel), by decide, by decide, rc_X3_leverOf⟩, ⟨_, _, 2, 0, _, 4, (ct_X3_leverOf hl hNL), ⟨List.mem_of_getElem? (i := 431) (by decide +kernel), List.mem_of_getElem? (i := 41) (by decide +kernel), List.mem_of_getElem? (i := 428) (by decide +kernel), ⟨by decide +kernel, by decide +kernel⟩, by decide +kernel, by decide⟩, List.mem_of_getElem? (i := 430) (by decide +kernel), List.mem_of_getElem? (i := 5) (by decide +kernel), by decide, by decide, rc_X3_leverOf⟩, ⟨_, _, 1, 0, _, 4, (ct_X3_base hl hNL), ⟨List.mem_of_getElem? (i := 427) (by decide +kernel), List.mem_of_getElem? (i := 41) (by decide +kernel), List.mem_of_getElem? (i := 424) (by decide +kernel), ⟨by decide +kernel, by decide +kernel⟩, by decide +kernel, by decide⟩, List.mem_of_getElem? (i := 426) (by decide +kernel), List.mem_of_getElem? (i := 4) (by decide +kernel), by decide, by decide, rc_X3_base⟩, trivial⟩
def s_X3_canTake : SP := aM tb_X3_canTake 4 3 3 2 0
theorem ct_X3_canTake {l : Launch} (hl : l.stackTraces = false) (hNL : NewL l) : CT l yX3_canTake cX3_canTake 3 (some .boolean) 1 0 s_X3_canTake := CT_of hl hNL (by decide +kernel) (own := "HeavyHaul$Rig") rfl (ini := false) (fun q => nomatch q) chk_X3_canTake (cal_X3_canTake hl hNL) (aM_args (by decide)) aM_vc
theorem rc_X3_canTake : ∀ as S P, s_X3_canTake as S P → ∃ k i r, as = aR k i :: r ∧ ci k = 4 ∧ (obK k = true ∨ k = 13) := aM_rc
def tb_X3_share : Tb := [(0, .aload_n 0, 1, x0), (1, .getfield 21, 3, xF 4 0 [371]), (4, .iconst 2, 1, xI (2)), (5, .idiv, 1, x0), (6, .istore_n 2, 1, x0), (7, .iload_n 1, 1, x0), (8, .aload_n 0, 1, x0), (9, .getfield 36, 3, xF 4 5 [381]), (12, .iconst 2, 1, xI (2)), (13, .idiv, 1, x0), (14, .iadd, 1, x0), (15, .istore_n 3, 1, x0), (16, .iload_n 2, 1, x0), (17, .ifCond .le 13, 3, xN 30), (20, .iload_n 3, 1, x0), (21, .iload_n 2, 1, x0), (22, .iadd, 1, x0), (23, .iconst 1, 1, xI (1)), (24, .isub, 1, x0), (25, .iload_n 2, 1, x0), (26, .idiv, 1, x0), (27, .goto 4, 3, xN 31), (30, .iconst 0, 1, xI (0)), (31, .ireturn, 1, x0)]
theorem chk_X3_share : chkTb cX3_share "HeavyHaul$Rig" false tb_X3_share = true := by decide +kernel
theorem cal_X3_share {l : Launch} (hl : l.stackTraces = false) (hNL : NewL l) : CallsOK l "HeavyHaul$Rig" 0 tb_X3_share := callsOK_f trivial
def s_X3_share : SP := aM tb_X3_share 4 2 4 1 0
theorem ct_X3_share {l : Launch} (hl : l.stackTraces = false) (hNL : NewL l) : CT l yX3_share cX3_share 4 (some .int) 0 0 s_X3_share := CT_of hl hNL (by decide +kernel) (own := "HeavyHaul$Rig") rfl (ini := false) (fun q => nomatch q) chk_X3_share (cal_X3_share hl hNL) (aM_args (by decide)) aM_vc
theorem rc_X3_share : ∀ as S P, s_X3_share as S P → ∃ k i r, as = aR k i :: r ∧ ci k = 4 ∧ (obK k = true ∨ k = 13) := aM_rc
def tb_X3_weightOf : Tb := [(0, .iload_n 1, 1, x0), (1, .aload_n 0, 1, x0), (2, .getfield 21, 3, xF 4 0 [371]), (5, .iconst 2, 1, xI (2)), (6, .idiv, 1, x0), (7, .if_icmp .ge 10, 3, xN 17), (10, .aload_n 0, 1, x0), (11, .getfield 50, 3, xF 4 6 [382]), (14, .goto 7, 3, xN 21), (17, .aload_n 0, 1, x0), (18, .getfield 53, 3, xF 4 7 [383]), (21, .ireturn, 1, x0)]
theorem chk_X3_weightOf : chkTb cX3_weightOf "HeavyHaul$Rig" false tb_X3_weightOf = true := by decide +kernel
theorem cal_X3_weightOf {l : Launch} (hl : l.stackTraces = false) (hNL : NewL l) : CallsOK l "HeavyHaul$Rig" 0 tb_X3_weightOf := callsOK_f trivial
def s_X3_weightOf : SP := aM tb_X3_weightOf 4 2 2 1 0
theorem ct_X3_weightOf {l : Launch} (hl : l.stackTraces = false) (hNL : NewL l) : CT l yX3_weightOf cX3_weightOf 2 (some .int) 0 0 s_X3_weightOf := CT_of hl hNL (by decide +kernel) (own := "HeavyHaul$Rig") rfl (ini := false) (fun q => nomatch q) chk_X3_weightOf (cal_X3_weightOf hl hNL) (aM_args (by decide)) aM_vc
theorem rc_X3_weightOf : ∀ as S P, s_X3_weightOf as S P → ∃ k i r, as = aR k i :: r ∧ ci k = 4 ∧ (obK k = true ∨ k = 13) := aM_rc
def tb_X3_heaviestAxle : Tb := [(0, .aload_n 0, 1, x0), (1, .getfield 50, 3, xF 4 6 [382]), (4, .aload_n 0, 1, x0), (5, .getfield 53, 3, xF 4 7 [383]), (8, .invokestatic 56, 3, (((2, 7, 0), [], (0, sMax)) : Xi)), (11, .ireturn, 1, x0)]
theorem chk_X3_heaviestAxle : chkTb cX3_heaviestAxle "HeavyHaul$Rig" false tb_X3_heaviestAxle = true := by decide +kernel
theorem cal_X3_heaviestAxle {l : Launch} (hl : l.stackTraces = false) (hNL : NewL l) : CallsOK l "HeavyHaul$Rig" 0 tb_X3_heaviestAxle := callsOK_f ⟨⟨List.mem_of_getElem? (i := 653) (by decide +kernel), rfl, rfl, rfl⟩, trivial⟩
def s_X3_heaviestAxle : SP := aM tb_X3_heaviestAxle 4 1 1 1 0
theorem ct_X3_heaviestAxle {l : Launch} (hl : l.stackTraces = false) (hNL : NewL l) : CT l yX3_heaviestAxle cX3_heaviestAxle 1 (some .int) 0 0 s_X3_heaviestAxle := CT_of hl hNL (by decide +kernel) (own := "HeavyHaul$Rig") rfl (ini := false) (fun q => nomatch q) chk_X3_heaviestAxle (cal_X3_heaviestAxle hl hNL) (aM_args (by decide)) aM_vc
theorem rc_X3_heaviestAxle : ∀ as S P, s_X3_heaviestAxle as S P → ∃ k i r, as = aR k i :: r ∧ ci k = 4 ∧ (obK k = true ∨ k = 13) := aM_rc
def tb_X3_isDriving : Tb := [(0, .aload_n 0, 1, x0), (1, .getfield 9, 3, xF 4 9 [386]), (4, .iconst (-1), 1, xI (-1)), (5, .if_icmp .eq 7, 3, xN 12), (8, .iconst 1, 1, xI (1)), (9, .goto 4, 3, xN 13), (12, .iconst 0, 1, xI (0)), (13, .ireturn, 1, x0)]
theorem chk_X3_isDriving : chkTb cX3_isDriving "HeavyHaul$Rig" false tb_X3_isDriving = true := by decide +kernel
theorem cal_X3_isDriving {l : Launch} (hl : l.stackTraces = false) (hNL : NewL l) : CallsOK l "HeavyHaul$Rig" 0 tb_X3_isDriving := callsOK_f trivial
def s_X3_isDriving : SP := aM tb_X3_isDriving 4 1 1 2 0
theorem ct_X3_isDriving {l : Launch} (hl : l.stackTraces = false) (hNL : NewL l) : CT l yX3_isDriving cX3_isDriving 1 (some .boolean) 0 0 s_X3_isDriving := CT_of hl hNL (by decide +kernel) (own := "HeavyHaul$Rig") rfl (ini := false) (fun q => nomatch q) chk_X3_isDriving (cal_X3_isDriving hl hNL) (aM_args (by decide)) aM_vc
theorem rc_X3_isDriving : ∀ as S P, s_X3_isDriving as S P → ∃ k i r, as = aR k i :: r ∧ ci k = 4 ∧ (obK k = true ∨ k = 13) := aM_rc
def tb_X3_setOut : Tb := [(0, .aload_n 0, 1, x0), (1, .iload_n 1, 1, x0), (2, .putfield 9, 3, xF 4 9 [386]), (5, .aload_n 0, 1, x0), (6, .iload_n 2, 1, x0), (7, .putfield 18, 3, xF 4 8 [384]), (10, .aload_n 0, 1, x0), (11, .iload_n 3, 1, x0), (12, .putfield 15, 3, xF 4 10 [388]), (15, .aload_n 0, 1, x0), (16, .dup, 1, x0), (17, .getfield 62, 3, xF 4 12 [391]), (20, .iconst 1, 1, xI (1)), (21, .iadd, 1, x0), (22, .putfield 62, 3, xF 4 12 [391]), (25, .return_, 1, x0)]
theorem chk_X3_setOut : chkTb cX3_setOut "HeavyHaul$Rig" false tb_X3_setOut = true := by decide +kernel
theorem cal_X3_setOut {l : Launch} (hl : l.stackTraces = false) (hNL : NewL l) : CallsOK l "HeavyHaul$Rig" 0 tb_X3_setOut := callsOK_f trivial
def s_X3_setOut : SP := aM tb_X3_setOut 4 4 4 0 0
theorem ct_X3_setOut {l : Launch} (hl : l.stackTraces = false) (hNL : NewL l) : CT l yX3_setOut cX3_setOut 4 none 0 0 s_X3_setOut := CT_of hl hNL (by decide +kernel) (own := "HeavyHaul$Rig") rfl (ini := false) (fun q => nomatch q) chk_X3_setOut (cal_X3_setOut hl hNL) (aM_args (by decide)) aM_vc
theorem rc_X3_setOut : ∀ as S P, s_X3_setOut as S P → ∃ k i r, as = aR k i :: r ∧ ci k = 4 ∧ (obK k = true ∨ k = 13) := aM_rc
def tb_X3_standIfArrived : Tb := [(0, .iload_n 1, 1, x0), (1, .aload_n 0, 1, x0), (2, .getfield 15, 3, xF 4 10 [388]), (5, .if_icmp .lt 8, 3, xN 13), (8, .aload_n 0, 1, x0), (9, .iconst (-1), 1, xI (-1)), (10, .putfield 9, 3, xF 4 9 [386]), (13, .return_, 1, x0)]
theorem chk_X3_standIfArrived : chkTb cX3_standIfArrived "HeavyHaul$Rig" false tb_X3_standIfArrived = true := by decide +kernel
theorem cal_X3_standIfArrived {l : Launch} (hl : l.stackTraces = false) (hNL : NewL l) : CallsOK l "HeavyHaul$Rig" 0 tb_X3_standIfArrived := callsOK_f trivial
def s_X3_standIfArrived : SP := aM tb_X3_standIfArrived 4 2 2 0 0
theorem ct_X3_standIfArrived {l : Launch} (hl : l.stackTraces = false) (hNL : NewL l) : CT l yX3_standIfArrived cX3_standIfArrived 2 none 0 0 s_X3_standIfArrived := CT_of hl hNL (by decide +kernel) (own := "HeavyHaul$Rig") rfl (ini := false) (fun q => nomatch q) chk_X3_standIfArrived (cal_X3_standIfArrived hl hNL) (aM_args (by decide)) aM_vc
theorem rc_X3_standIfArrived : ∀ as S P, s_X3_standIfArrived as S P → ∃ k i r, as = aR k i :: r ∧ ci k = 4 ∧ (obK k = true ∨ k = 13) := aM_rc
