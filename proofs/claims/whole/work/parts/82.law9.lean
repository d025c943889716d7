/-! ===== the law's start ===== -/
theorem ws_A {s : State} : ∀ a : Nat, a < s.heap.size → ¬ (fun q => s.heap.size ≤ q) a := fun a h h2 => absurd h (Nat.not_lt.mpr h2)
theorem sbn_new {s s' : State} {L : List Loc} {k n : Nat} (h : s.sameButNew s' L k n) (hL : ∀ z ∈ L, s.heap.size ≤ z.base) : s.sameButNew s' [] k n := by
  obtain ⟨h1, h2, h3, h4, h5, h6⟩ := h
  refine ⟨h1, h2, h3, h4, h5, fun a c hc => ?_⟩
  obtain ⟨c', e1, e2, e3, e4⟩ := h6 a c hc
  refine ⟨c', e1, e2, e3, fun i _ => e4 i (fun hm => ?_)⟩
  have q1 : s.heap.size ≤ a := hL _ hm
  have q2 : a < s.heap.size := (Array.getElem?_eq_some_iff.mp hc).1
  exact absurd q2 (Nat.not_lt.mpr q1)
theorem ws_W0 {s : State} {b : Addr} (hts : ∀ w ∈ lw_tbl, w.before #[Value.ref b] s = true) (hgv : (Jvm.Cond.and given_1 narrow_1).before #[Value.ref b] s = true) : ∃ t, va_Z "LossyChannelsModel" "MOVE_WORD" "[C" (.ref t) (fun q => s.heap.size ≤ q) s s.heap ∧ va_T .char t 4 (fun j => .int (([109, 111, 118, 101] : List Int32).getD j 0)) (fun q => s.heap.size ≤ q) s s.heap := by
  have hg := flat_of_before _ hgv
  obtain ⟨t, h1, h2⟩ := va_Tof (args := #[Value.ref b]) (tm := .static "LossyChannelsModel" "MOVE_WORD" "[C") (ty := .char) (N := 4) (f := fun j => .int (([109, 111, 118, 101] : List Int32).getD j 0)) (A := fun q => s.heap.size ≤ q) (by decide) (hg _ (List.mem_of_getElem? (i := 26) (by decide +kernel))) (va_eqt (hg _ (List.mem_of_getElem? (i := 27) (by decide +kernel)))) (fun j hj => by
    match j, hj with
    | 0, _ => exact va_eqt (hg _ (List.mem_of_getElem? (i := 28) (by decide +kernel)))
    | 1, _ => exact va_eqt (hg _ (List.mem_of_getElem? (i := 29) (by decide +kernel)))
    | 2, _ => exact va_eqt (hg _ (List.mem_of_getElem? (i := 30) (by decide +kernel)))
    | 3, _ => exact va_eqt (hg _ (List.mem_of_getElem? (i := 31) (by decide +kernel)))) ws_A
  exact ⟨t, va_Zof (hts _ (List.mem_of_getElem? (i := 1737) (by decide +kernel))) (hts _ (List.mem_of_getElem? (i := 78) (by decide +kernel))) h1 ws_A, h2⟩
theorem ws_V0 {s : State} {b : Addr} (hts : ∀ w ∈ lw_tbl, w.before #[Value.ref b] s = true) (hgv : (Jvm.Cond.and given_1 narrow_1).before #[Value.ref b] s = true) : ∃ a t, vk_R "LossyChannels$TextReader" 107 "move" a s ∧ va_O "java/lang/String" a (fun q => s.heap.size ≤ q) s s.heap ∧ va_OF "java/lang/String" "coder" "B" (.int 0) a (fun q => s.heap.size ≤ q) s s.heap ∧ va_OF "java/lang/String" "value" "[B" (.ref t) a (fun q => s.heap.size ≤ q) s s.heap ∧ va_T .byte t 4 (fun j => .int (([109, 111, 118, 101] : List Int32).getD j 0)) (fun q => s.heap.size ≤ q) s s.heap := by
  have hg := flat_of_before _ hgv
  obtain ⟨a, c, cA, kA, q1, q2, q3, q4, q5, q6, -⟩ := Cond.exactly_spec (args := #[Value.ref b]) (first := s) (o := none) (s := s) (idx := []) (t := .string "LossyChannels$TextReader" 107) (cls := "java/lang/String") (hg _ (List.mem_of_getElem? (i := 715) (by decide +kernel)))
  obtain ⟨t, h1, h2⟩ := va_Tof (args := #[Value.ref b]) (tm := .field (.string "LossyChannels$TextReader" 107) "java/lang/String" "value" "[B") (ty := .byte) (N := 4) (f := fun j => .int (([109, 111, 118, 101] : List Int32).getD j 0)) (A := fun q => s.heap.size ≤ q) (by decide) (hg _ (List.mem_of_getElem? (i := 717) (by decide +kernel))) (va_eqt (hg _ (List.mem_of_getElem? (i := 718) (by decide +kernel)))) (fun j hj => by
    match j, hj with
    | 0, _ => exact va_eqt (hg _ (List.mem_of_getElem? (i := 719) (by decide +kernel)))
    | 1, _ => exact va_eqt (hg _ (List.mem_of_getElem? (i := 720) (by decide +kernel)))
    | 2, _ => exact va_eqt (hg _ (List.mem_of_getElem? (i := 721) (by decide +kernel)))
    | 3, _ => exact va_eqt (hg _ (List.mem_of_getElem? (i := 722) (by decide +kernel)))) ws_A
  exact ⟨a, t, vk_R.of (hts _ (List.mem_of_getElem? (i := 1133) (by decide +kernel))) q1, ⟨cA, q3, q5, by rw [q6]; exact q2, ws_A a (Array.getElem?_eq_some_iff.mp q3).1⟩, vk_OFof q1 (va_eqt (hg _ (List.mem_of_getElem? (i := 716) (by decide +kernel)))) ws_A, vk_OFof q1 h1 ws_A, h2⟩
theorem ws_W1 {s : State} {b : Addr} (hts : ∀ w ∈ lw_tbl, w.before #[Value.ref b] s = true) (hgv : (Jvm.Cond.and given_1 narrow_1).before #[Value.ref b] s = true) : ∃ t, va_Z "LossyChannelsModel" "SEND_WORD" "[C" (.ref t) (fun q => s.heap.size ≤ q) s s.heap ∧ va_T .char t 4 (fun j => .int (([115, 101, 110, 100] : List Int32).getD j 0)) (fun q => s.heap.size ≤ q) s s.heap := by
  have hg := flat_of_before _ hgv
  obtain ⟨t, h1, h2⟩ := va_Tof (args := #[Value.ref b]) (tm := .static "LossyChannelsModel" "SEND_WORD" "[C") (ty := .char) (N := 4) (f := fun j => .int (([115, 101, 110, 100] : List Int32).getD j 0)) (A := fun q => s.heap.size ≤ q) (by decide) (hg _ (List.mem_of_getElem? (i := 12) (by decide +kernel))) (va_eqt (hg _ (List.mem_of_getElem? (i := 13) (by decide +kernel)))) (fun j hj => by
    match j, hj with
    | 0, _ => exact va_eqt (hg _ (List.mem_of_getElem? (i := 14) (by decide +kernel)))
    | 1, _ => exact va_eqt (hg _ (List.mem_of_getElem? (i := 15) (by decide +kernel)))
    | 2, _ => exact va_eqt (hg _ (List.mem_of_getElem? (i := 16) (by decide +kernel)))
    | 3, _ => exact va_eqt (hg _ (List.mem_of_getElem? (i := 17) (by decide +kernel)))) ws_A
  exact ⟨t, va_Zof (hts _ (List.mem_of_getElem? (i := 1729) (by decide +kernel))) (hts _ (List.mem_of_getElem? (i := 78) (by decide +kernel))) h1 ws_A, h2⟩
theorem ws_V1 {s : State} {b : Addr} (hts : ∀ w ∈ lw_tbl, w.before #[Value.ref b] s = true) (hgv : (Jvm.Cond.and given_1 narrow_1).before #[Value.ref b] s = true) : ∃ a t, vk_R "LossyChannels$TextReader" 113 "send" a s ∧ va_O "java/lang/String" a (fun q => s.heap.size ≤ q) s s.heap ∧ va_OF "java/lang/String" "coder" "B" (.int 0) a (fun q => s.heap.size ≤ q) s s.heap ∧ va_OF "java/lang/String" "value" "[B" (.ref t) a (fun q => s.heap.size ≤ q) s s.heap ∧ va_T .byte t 4 (fun j => .int (([115, 101, 110, 100] : List Int32).getD j 0)) (fun q => s.heap.size ≤ q) s s.heap := by
  have hg := flat_of_before _ hgv
  obtain ⟨a, c, cA, kA, q1, q2, q3, q4, q5, q6, -⟩ := Cond.exactly_spec (args := #[Value.ref b]) (first := s) (o := none) (s := s) (idx := []) (t := .string "LossyChannels$TextReader" 113) (cls := "java/lang/String") (hg _ (List.mem_of_getElem? (i := 723) (by decide +kernel)))
  obtain ⟨t, h1, h2⟩ := va_Tof (args := #[Value.ref b]) (tm := .field (.string "LossyChannels$TextReader" 113) "java/lang/String" "value" "[B") (ty := .byte) (N := 4) (f := fun j => .int (([115, 101, 110, 100] : List Int32).getD j 0)) (A := fun q => s.heap.size ≤ q) (by decide) (hg _ (List.mem_of_getElem? (i := 725) (by decide +kernel))) (va_eqt (hg _ (List.mem_of_getElem? (i := 726) (by decide +kernel)))) (fun j hj => by
    match j, hj with
    | 0, _ => exact va_eqt (hg _ (List.mem_of_getElem? (i := 727) (by decide +kernel)))
    | 1, _ => exact va_eqt (hg _ (List.mem_of_getElem? (i := 728) (by decide +kernel)))
    | 2, _ => exact va_eqt (hg _ (List.mem_of_getElem? (i := 729) (by decide +kernel)))
    | 3, _ => exact va_eqt (hg _ (List.mem_of_getElem? (i := 730) (by decide +kernel)))) ws_A
  exact ⟨a, t, vk_R.of (hts _ (List.mem_of_getElem? (i := 1186) (by decide +kernel))) q1, ⟨cA, q3, q5, by rw [q6]; exact q2, ws_A a (Array.getElem?_eq_some_iff.mp q3).1⟩, vk_OFof q1 (va_eqt (hg _ (List.mem_of_getElem? (i := 724) (by decide +kernel)))) ws_A, vk_OFof q1 h1 ws_A, h2⟩
theorem ws_W2 {s : State} {b : Addr} (hts : ∀ w ∈ lw_tbl, w.before #[Value.ref b] s = true) (hgv : (Jvm.Cond.and given_1 narrow_1).before #[Value.ref b] s = true) : ∃ t, va_Z "LossyChannelsModel" "RECV_WORD" "[C" (.ref t) (fun q => s.heap.size ≤ q) s s.heap ∧ va_T .char t 4 (fun j => .int (([114, 101, 99, 118] : List Int32).getD j 0)) (fun q => s.heap.size ≤ q) s s.heap := by
  have hg := flat_of_before _ hgv
  obtain ⟨t, h1, h2⟩ := va_Tof (args := #[Value.ref b]) (tm := .static "LossyChannelsModel" "RECV_WORD" "[C") (ty := .char) (N := 4) (f := fun j => .int (([114, 101, 99, 118] : List Int32).getD j 0)) (A := fun q => s.heap.size ≤ q) (by decide) (hg _ (List.mem_of_getElem? (i := 19) (by decide +kernel))) (va_eqt (hg _ (List.mem_of_getElem? (i := 20) (by decide +kernel)))) (fun j hj => by
    match j, hj with
    | 0, _ => exact va_eqt (hg _ (List.mem_of_getElem? (i := 21) (by decide +kernel)))
    | 1, _ => exact va_eqt (hg _ (List.mem_of_getElem? (i := 22) (by decide +kernel)))
    | 2, _ => exact va_eqt (hg _ (List.mem_of_getElem? (i := 23) (by decide +kernel)))
    | 3, _ => exact va_eqt (hg _ (List.mem_of_getElem? (i := 24) (by decide +kernel)))) ws_A
  exact ⟨t, va_Zof (hts _ (List.mem_of_getElem? (i := 1735) (by decide +kernel))) (hts _ (List.mem_of_getElem? (i := 78) (by decide +kernel))) h1 ws_A, h2⟩
theorem ws_V2 {s : State} {b : Addr} (hts : ∀ w ∈ lw_tbl, w.before #[Value.ref b] s = true) (hgv : (Jvm.Cond.and given_1 narrow_1).before #[Value.ref b] s = true) : ∃ a t, vk_R "LossyChannels$TextReader" 115 "recv" a s ∧ va_O "java/lang/String" a (fun q => s.heap.size ≤ q) s s.heap ∧ va_OF "java/lang/String" "coder" "B" (.int 0) a (fun q => s.heap.size ≤ q) s s.heap ∧ va_OF "java/lang/String" "value" "[B" (.ref t) a (fun q => s.heap.size ≤ q) s s.heap ∧ va_T .byte t 4 (fun j => .int (([114, 101, 99, 118] : List Int32).getD j 0)) (fun q => s.heap.size ≤ q) s s.heap := by
  have hg := flat_of_before _ hgv
  obtain ⟨a, c, cA, kA, q1, q2, q3, q4, q5, q6, -⟩ := Cond.exactly_spec (args := #[Value.ref b]) (first := s) (o := none) (s := s) (idx := []) (t := .string "LossyChannels$TextReader" 115) (cls := "java/lang/String") (hg _ (List.mem_of_getElem? (i := 731) (by decide +kernel)))
  obtain ⟨t, h1, h2⟩ := va_Tof (args := #[Value.ref b]) (tm := .field (.string "LossyChannels$TextReader" 115) "java/lang/String" "value" "[B") (ty := .byte) (N := 4) (f := fun j => .int (([114, 101, 99, 118] : List Int32).getD j 0)) (A := fun q => s.heap.size ≤ q) (by decide) (hg _ (List.mem_of_getElem? (i := 733) (by decide +kernel))) (va_eqt (hg _ (List.mem_of_getElem? (i := 734) (by decide +kernel)))) (fun j hj => by
    match j, hj with
    | 0, _ => exact va_eqt (hg _ (List.mem_of_getElem? (i := 735) (by decide +kernel)))
    | 1, _ => exact va_eqt (hg _ (List.mem_of_getElem? (i := 736) (by decide +kernel)))
    | 2, _ => exact va_eqt (hg _ (List.mem_of_getElem? (i := 737) (by decide +kernel)))
    | 3, _ => exact va_eqt (hg _ (List.mem_of_getElem? (i := 738) (by decide +kernel)))) ws_A
  exact ⟨a, t, vk_R.of (hts _ (List.mem_of_getElem? (i := 1187) (by decide +kernel))) q1, ⟨cA, q3, q5, by rw [q6]; exact q2, ws_A a (Array.getElem?_eq_some_iff.mp q3).1⟩, vk_OFof q1 (va_eqt (hg _ (List.mem_of_getElem? (i := 732) (by decide +kernel)))) ws_A, vk_OFof q1 h1 ws_A, h2⟩
theorem ws_W3 {s : State} {b : Addr} (hts : ∀ w ∈ lw_tbl, w.before #[Value.ref b] s = true) (hgv : (Jvm.Cond.and given_1 narrow_1).before #[Value.ref b] s = true) : ∃ t, va_Z "LossyChannelsModel" "GOAL_WORD" "[C" (.ref t) (fun q => s.heap.size ≤ q) s s.heap ∧ va_T .char t 4 (fun j => .int (([103, 111, 97, 108] : List Int32).getD j 0)) (fun q => s.heap.size ≤ q) s s.heap := by
  have hg := flat_of_before _ hgv
  obtain ⟨t, h1, h2⟩ := va_Tof (args := #[Value.ref b]) (tm := .static "LossyChannelsModel" "GOAL_WORD" "[C") (ty := .char) (N := 4) (f := fun j => .int (([103, 111, 97, 108] : List Int32).getD j 0)) (A := fun q => s.heap.size ≤ q) (by decide) (hg _ (List.mem_of_getElem? (i := 33) (by decide +kernel))) (va_eqt (hg _ (List.mem_of_getElem? (i := 34) (by decide +kernel)))) (fun j hj => by
    match j, hj with
    | 0, _ => exact va_eqt (hg _ (List.mem_of_getElem? (i := 35) (by decide +kernel)))
    | 1, _ => exact va_eqt (hg _ (List.mem_of_getElem? (i := 36) (by decide +kernel)))
    | 2, _ => exact va_eqt (hg _ (List.mem_of_getElem? (i := 37) (by decide +kernel)))
    | 3, _ => exact va_eqt (hg _ (List.mem_of_getElem? (i := 38) (by decide +kernel)))) ws_A
  exact ⟨t, va_Zof (hts _ (List.mem_of_getElem? (i := 1739) (by decide +kernel))) (hts _ (List.mem_of_getElem? (i := 78) (by decide +kernel))) h1 ws_A, h2⟩
theorem ws_V3 {s : State} {b : Addr} (hts : ∀ w ∈ lw_tbl, w.before #[Value.ref b] s = true) (hgv : (Jvm.Cond.and given_1 narrow_1).before #[Value.ref b] s = true) : ∃ a t, vk_R "LossyChannels$TextReader" 117 "goal" a s ∧ va_O "java/lang/String" a (fun q => s.heap.size ≤ q) s s.heap ∧ va_OF "java/lang/String" "coder" "B" (.int 0) a (fun q => s.heap.size ≤ q) s s.heap ∧ va_OF "java/lang/String" "value" "[B" (.ref t) a (fun q => s.heap.size ≤ q) s s.heap ∧ va_T .byte t 4 (fun j => .int (([103, 111, 97, 108] : List Int32).getD j 0)) (fun q => s.heap.size ≤ q) s s.heap := by
  have hg := flat_of_before _ hgv
  obtain ⟨a, c, cA, kA, q1, q2, q3, q4, q5, q6, -⟩ := Cond.exactly_spec (args := #[Value.ref b]) (first := s) (o := none) (s := s) (idx := []) (t := .string "LossyChannels$TextReader" 117) (cls := "java/lang/String") (hg _ (List.mem_of_getElem? (i := 739) (by decide +kernel)))
  obtain ⟨t, h1, h2⟩ := va_Tof (args := #[Value.ref b]) (tm := .field (.string "LossyChannels$TextReader" 117) "java/lang/String" "value" "[B") (ty := .byte) (N := 4) (f := fun j => .int (([103, 111, 97, 108] : List Int32).getD j 0)) (A := fun q => s.heap.size ≤ q) (by decide) (hg _ (List.mem_of_getElem? (i := 741) (by decide +kernel))) (va_eqt (hg _ (List.mem_of_getElem? (i := 742) (by decide +kernel)))) (fun j hj => by
    match j, hj with
    | 0, _ => exact va_eqt (hg _ (List.mem_of_getElem? (i := 743) (by decide +kernel)))
    | 1, _ => exact va_eqt (hg _ (List.mem_of_getElem? (i := 744) (by decide +kernel)))
    | 2, _ => exact va_eqt (hg _ (List.mem_of_getElem? (i := 745) (by decide +kernel)))
    | 3, _ => exact va_eqt (hg _ (List.mem_of_getElem? (i := 746) (by decide +kernel)))) ws_A
  exact ⟨a, t, vk_R.of (hts _ (List.mem_of_getElem? (i := 1188) (by decide +kernel))) q1, ⟨cA, q3, q5, by rw [q6]; exact q2, ws_A a (Array.getElem?_eq_some_iff.mp q3).1⟩, vk_OFof q1 (va_eqt (hg _ (List.mem_of_getElem? (i := 740) (by decide +kernel)))) ws_A, vk_OFof q1 h1 ws_A, h2⟩
theorem ws_S0 {s : State} {b : Addr} (hts : ∀ w ∈ lw_tbl, w.before #[Value.ref b] s = true) (hgv : (Jvm.Cond.and given_1 narrow_1).before #[Value.ref b] s = true) : ∃ sa, vk_R "LossyChannels" 115 "no such part of a transition" sa s := by
  have hg := flat_of_before _ hgv
  obtain ⟨a, c, cA, kA, q1, -⟩ := Cond.exactly_spec (args := #[Value.ref b]) (first := s) (o := none) (s := s) (idx := []) (t := .string "LossyChannels" 115) (cls := "java/lang/String") (hg _ (List.mem_of_getElem? (i := 220) (by decide +kernel)))
  exact ⟨a, vk_R.of (hts _ (List.mem_of_getElem? (i := 638) (by decide +kernel))) q1⟩
theorem ws_S1 {s : State} {b : Addr} (hts : ∀ w ∈ lw_tbl, w.before #[Value.ref b] s = true) (hgv : (Jvm.Cond.and given_1 narrow_1).before #[Value.ref b] s = true) : ∃ sa, vk_R "LossyChannels" 121 "no such state" sa s := by
  have hg := flat_of_before _ hgv
  obtain ⟨a, c, cA, kA, q1, -⟩ := Cond.exactly_spec (args := #[Value.ref b]) (first := s) (o := none) (s := s) (idx := []) (t := .string "LossyChannels" 121) (cls := "java/lang/String") (hg _ (List.mem_of_getElem? (i := 252) (by decide +kernel)))
  exact ⟨a, vk_R.of (hts _ (List.mem_of_getElem? (i := 647) (by decide +kernel))) q1⟩
theorem ws_S2 {s : State} {b : Addr} (hts : ∀ w ∈ lw_tbl, w.before #[Value.ref b] s = true) (hgv : (Jvm.Cond.and given_1 narrow_1).before #[Value.ref b] s = true) : ∃ sa, vk_R "LossyChannels" 133 "no such letter" sa s := by
  have hg := flat_of_before _ hgv
  obtain ⟨a, c, cA, kA, q1, -⟩ := Cond.exactly_spec (args := #[Value.ref b]) (first := s) (o := none) (s := s) (idx := []) (t := .string "LossyChannels" 133) (cls := "java/lang/String") (hg _ (List.mem_of_getElem? (i := 288) (by decide +kernel)))
  exact ⟨a, vk_R.of (hts _ (List.mem_of_getElem? (i := 664) (by decide +kernel))) q1⟩
theorem ws_S3 {s : State} {b : Addr} (hts : ∀ w ∈ lw_tbl, w.before #[Value.ref b] s = true) (hgv : (Jvm.Cond.and given_1 narrow_1).before #[Value.ref b] s = true) : ∃ sa, vk_R "LossyChannels" 145 "the channel has 10 letters" sa s := by
  have hg := flat_of_before _ hgv
  obtain ⟨a, c, cA, kA, q1, -⟩ := Cond.exactly_spec (args := #[Value.ref b]) (first := s) (o := none) (s := s) (idx := []) (t := .string "LossyChannels" 145) (cls := "java/lang/String") (hg _ (List.mem_of_getElem? (i := 306) (by decide +kernel)))
  exact ⟨a, vk_R.of (hts _ (List.mem_of_getElem? (i := 667) (by decide +kernel))) q1⟩
theorem ws_S4 {s : State} {b : Addr} (hts : ∀ w ∈ lw_tbl, w.before #[Value.ref b] s = true) (hgv : (Jvm.Cond.and given_1 narrow_1).before #[Value.ref b] s = true) : ∃ sa, vk_R "LossyChannels" 171 "the transition cannot fire" sa s := by
  have hg := flat_of_before _ hgv
  obtain ⟨a, c, cA, kA, q1, -⟩ := Cond.exactly_spec (args := #[Value.ref b]) (first := s) (o := none) (s := s) (idx := []) (t := .string "LossyChannels" 171) (cls := "java/lang/String") (hg _ (List.mem_of_getElem? (i := 336) (by decide +kernel)))
  exact ⟨a, vk_R.of (hts _ (List.mem_of_getElem? (i := 725) (by decide +kernel))) q1⟩
theorem ws_S5 {s : State} {b : Addr} (hts : ∀ w ∈ lw_tbl, w.before #[Value.ref b] s = true) (hgv : (Jvm.Cond.and given_1 narrow_1).before #[Value.ref b] s = true) : ∃ sa, vk_R "LossyChannels" 191 "there is no step to undo" sa s := by
  have hg := flat_of_before _ hgv
  obtain ⟨a, c, cA, kA, q1, -⟩ := Cond.exactly_spec (args := #[Value.ref b]) (first := s) (o := none) (s := s) (idx := []) (t := .string "LossyChannels" 191) (cls := "java/lang/String") (hg _ (List.mem_of_getElem? (i := 366) (by decide +kernel)))
  exact ⟨a, vk_R.of (hts _ (List.mem_of_getElem? (i := 789) (by decide +kernel))) q1⟩
theorem ws_S6 {s : State} {b : Addr} (hts : ∀ w ∈ lw_tbl, w.before #[Value.ref b] s = true) (hgv : (Jvm.Cond.and given_1 narrow_1).before #[Value.ref b] s = true) : ∃ sa, vk_R "LossyChannels" 227 "there are 3 goals" sa s := by
  have hg := flat_of_before _ hgv
  obtain ⟨a, c, cA, kA, q1, -⟩ := Cond.exactly_spec (args := #[Value.ref b]) (first := s) (o := none) (s := s) (idx := []) (t := .string "LossyChannels" 227) (cls := "java/lang/String") (hg _ (List.mem_of_getElem? (i := 394) (by decide +kernel)))
  exact ⟨a, vk_R.of (hts _ (List.mem_of_getElem? (i := 835) (by decide +kernel))) q1⟩
theorem ws_S7 {s : State} {b : Addr} (hts : ∀ w ∈ lw_tbl, w.before #[Value.ref b] s = true) (hgv : (Jvm.Cond.and given_1 narrow_1).before #[Value.ref b] s = true) : ∃ sa, vk_R "LossyChannels" 257 "no such configuration or part of it" sa s := by
  have hg := flat_of_before _ hgv
  obtain ⟨a, c, cA, kA, q1, -⟩ := Cond.exactly_spec (args := #[Value.ref b]) (first := s) (o := none) (s := s) (idx := []) (t := .string "LossyChannels" 257) (cls := "java/lang/String") (hg _ (List.mem_of_getElem? (i := 480) (by decide +kernel)))
  exact ⟨a, vk_R.of (hts _ (List.mem_of_getElem? (i := 965) (by decide +kernel))) q1⟩
theorem ws_S8 {s : State} {b : Addr} (hts : ∀ w ∈ lw_tbl, w.before #[Value.ref b] s = true) (hgv : (Jvm.Cond.and given_1 narrow_1).before #[Value.ref b] s = true) : ∃ sa, vk_R "LossyChannels" 267 "no such configuration or channel" sa s := by
  have hg := flat_of_before _ hgv
  obtain ⟨a, c, cA, kA, q1, -⟩ := Cond.exactly_spec (args := #[Value.ref b]) (first := s) (o := none) (s := s) (idx := []) (t := .string "LossyChannels" 267) (cls := "java/lang/String") (hg _ (List.mem_of_getElem? (i := 519) (by decide +kernel)))
  exact ⟨a, vk_R.of (hts _ (List.mem_of_getElem? (i := 978) (by decide +kernel))) q1⟩
theorem ws_S9 {s : State} {b : Addr} (hts : ∀ w ∈ lw_tbl, w.before #[Value.ref b] s = true) (hgv : (Jvm.Cond.and given_1 narrow_1).before #[Value.ref b] s = true) : ∃ sa, vk_R "LossyChannels" 269 "no such place" sa s := by
  have hg := flat_of_before _ hgv
  obtain ⟨a, c, cA, kA, q1, -⟩ := Cond.exactly_spec (args := #[Value.ref b]) (first := s) (o := none) (s := s) (idx := []) (t := .string "LossyChannels" 269) (cls := "java/lang/String") (hg _ (List.mem_of_getElem? (i := 555) (by decide +kernel)))
  exact ⟨a, vk_R.of (hts _ (List.mem_of_getElem? (i := 979) (by decide +kernel))) q1⟩
theorem ws_S10 {s : State} {b : Addr} (hts : ∀ w ∈ lw_tbl, w.before #[Value.ref b] s = true) (hgv : (Jvm.Cond.and given_1 narrow_1).before #[Value.ref b] s = true) : ∃ sa, vk_R "LossyChannels" 286 "the number of firings is not from 0 to 4" sa s := by
  have hg := flat_of_before _ hgv
  obtain ⟨a, c, cA, kA, q1, -⟩ := Cond.exactly_spec (args := #[Value.ref b]) (first := s) (o := none) (s := s) (idx := []) (t := .string "LossyChannels" 286) (cls := "java/lang/String") (hg _ (List.mem_of_getElem? (i := 590) (by decide +kernel)))
  exact ⟨a, vk_R.of (hts _ (List.mem_of_getElem? (i := 1062) (by decide +kernel))) q1⟩
theorem ws_S11 {s : State} {b : Addr} (hts : ∀ w ∈ lw_tbl, w.before #[Value.ref b] s = true) (hgv : (Jvm.Cond.and given_1 narrow_1).before #[Value.ref b] s = true) : ∃ sa, vk_R "LossyChannels" 295 "the number of firings is not from 1 to 4" sa s := by
  have hg := flat_of_before _ hgv
  obtain ⟨a, c, cA, kA, q1, -⟩ := Cond.exactly_spec (args := #[Value.ref b]) (first := s) (o := none) (s := s) (idx := []) (t := .string "LossyChannels" 295) (cls := "java/lang/String") (hg _ (List.mem_of_getElem? (i := 634) (by decide +kernel)))
  exact ⟨a, vk_R.of (hts _ (List.mem_of_getElem? (i := 1090) (by decide +kernel))) q1⟩
theorem ws_S12 {s : State} {b : Addr} (hts : ∀ w ∈ lw_tbl, w.before #[Value.ref b] s = true) (hgv : (Jvm.Cond.and given_1 narrow_1).before #[Value.ref b] s = true) : ∃ sa, vk_R "LossyChannels" 301 "the buffer contains 80 characters" sa s := by
  have hg := flat_of_before _ hgv
  obtain ⟨a, c, cA, kA, q1, -⟩ := Cond.exactly_spec (args := #[Value.ref b]) (first := s) (o := none) (s := s) (idx := []) (t := .string "LossyChannels" 301) (cls := "java/lang/String") (hg _ (List.mem_of_getElem? (i := 678) (by decide +kernel)))
  exact ⟨a, vk_R.of (hts _ (List.mem_of_getElem? (i := 1102) (by decide +kernel))) q1⟩
theorem ws_S13 {s : State} {b : Addr} (hts : ∀ w ∈ lw_tbl, w.before #[Value.ref b] s = true) (hgv : (Jvm.Cond.and given_1 narrow_1).before #[Value.ref b] s = true) : ∃ sa, vk_R "LossyChannels" 312 "the text has a fault" sa s := by
  have hg := flat_of_before _ hgv
  obtain ⟨a, c, cA, kA, q1, -⟩ := Cond.exactly_spec (args := #[Value.ref b]) (first := s) (o := none) (s := s) (idx := []) (t := .string "LossyChannels" 312) (cls := "java/lang/String") (hg _ (List.mem_of_getElem? (i := 747) (by decide +kernel)))
  exact ⟨a, vk_R.of (hts _ (List.mem_of_getElem? (i := 1216) (by decide +kernel))) q1⟩
theorem ws_S14 {s : State} {b : Addr} (hts : ∀ w ∈ lw_tbl, w.before #[Value.ref b] s = true) (hgv : (Jvm.Cond.and given_1 narrow_1).before #[Value.ref b] s = true) : ∃ sa, vk_R "LossyChannels" 321 "too many transitions or goals" sa s := by
  have hg := flat_of_before _ hgv
  obtain ⟨a, c, cA, kA, q1, -⟩ := Cond.exactly_spec (args := #[Value.ref b]) (first := s) (o := none) (s := s) (idx := []) (t := .string "LossyChannels" 321) (cls := "java/lang/String") (hg _ (List.mem_of_getElem? (i := 771) (by decide +kernel)))
  exact ⟨a, vk_R.of (hts _ (List.mem_of_getElem? (i := 1225) (by decide +kernel))) q1⟩
theorem ws_S15 {s : State} {b : Addr} (hts : ∀ w ∈ lw_tbl, w.before #[Value.ref b] s = true) (hgv : (Jvm.Cond.and given_1 narrow_1).before #[Value.ref b] s = true) : ∃ sa, vk_R "LossyChannels" 337 "there is no snapshot" sa s := by
  have hg := flat_of_before _ hgv
  obtain ⟨a, c, cA, kA, q1, -⟩ := Cond.exactly_spec (args := #[Value.ref b]) (first := s) (o := none) (s := s) (idx := []) (t := .string "LossyChannels" 337) (cls := "java/lang/String") (hg _ (List.mem_of_getElem? (i := 804) (by decide +kernel)))
  exact ⟨a, vk_R.of (hts _ (List.mem_of_getElem? (i := 1239) (by decide +kernel))) q1⟩
theorem ws_S16 {s : State} {b : Addr} (hts : ∀ w ∈ lw_tbl, w.before #[Value.ref b] s = true) (hgv : (Jvm.Cond.and given_1 narrow_1).before #[Value.ref b] s = true) : ∃ sa, vk_R "LossyChannels" 342 "no such channel" sa s := by
  have hg := flat_of_before _ hgv
  obtain ⟨a, c, cA, kA, q1, -⟩ := Cond.exactly_spec (args := #[Value.ref b]) (first := s) (o := none) (s := s) (idx := []) (t := .string "LossyChannels" 342) (cls := "java/lang/String") (hg _ (List.mem_of_getElem? (i := 269) (by decide +kernel)))
  exact ⟨a, vk_R.of (hts _ (List.mem_of_getElem? (i := 663) (by decide +kernel))) q1⟩
theorem ws_S17 {s : State} {b : Addr} (hts : ∀ w ∈ lw_tbl, w.before #[Value.ref b] s = true) (hgv : (Jvm.Cond.and given_1 narrow_1).before #[Value.ref b] s = true) : ∃ sa, vk_R "LossyChannels" 347 "no such transition" sa s := by
  have hg := flat_of_before _ hgv
  obtain ⟨a, c, cA, kA, q1, -⟩ := Cond.exactly_spec (args := #[Value.ref b]) (first := s) (o := none) (s := s) (idx := []) (t := .string "LossyChannels" 347) (cls := "java/lang/String") (hg _ (List.mem_of_getElem? (i := 198) (by decide +kernel)))
  exact ⟨a, vk_R.of (hts _ (List.mem_of_getElem? (i := 620) (by decide +kernel))) q1⟩
theorem ws_S18 {s : State} {b : Addr} (hts : ∀ w ∈ lw_tbl, w.before #[Value.ref b] s = true) (hgv : (Jvm.Cond.and given_1 narrow_1).before #[Value.ref b] s = true) : ∃ sa, vk_R "LossyChannels" 354 "there is no goal" sa s := by
  have hg := flat_of_before _ hgv
  obtain ⟨a, c, cA, kA, q1, -⟩ := Cond.exactly_spec (args := #[Value.ref b]) (first := s) (o := none) (s := s) (idx := []) (t := .string "LossyChannels" 354) (cls := "java/lang/String") (hg _ (List.mem_of_getElem? (i := 415) (by decide +kernel)))
  exact ⟨a, vk_R.of (hts _ (List.mem_of_getElem? (i := 858) (by decide +kernel))) q1⟩
theorem ws_S19 {s : State} {b : Addr} (hts : ∀ w ∈ lw_tbl, w.before #[Value.ref b] s = true) (hgv : (Jvm.Cond.and given_1 narrow_1).before #[Value.ref b] s = true) : ∃ sa, vk_R "LossyChannels" 357 "the analysis is given up" sa s := by
  have hg := flat_of_before _ hgv
  obtain ⟨a, c, cA, kA, q1, -⟩ := Cond.exactly_spec (args := #[Value.ref b]) (first := s) (o := none) (s := s) (idx := []) (t := .string "LossyChannels" 357) (cls := "java/lang/String") (hg _ (List.mem_of_getElem? (i := 435) (by decide +kernel)))
  exact ⟨a, vk_R.of (hts _ (List.mem_of_getElem? (i := 940) (by decide +kernel))) q1⟩
theorem ws_S20 {s : State} {b : Addr} (hts : ∀ w ∈ lw_tbl, w.before #[Value.ref b] s = true) (hgv : (Jvm.Cond.and given_1 narrow_1).before #[Value.ref b] s = true) : ∃ sa, vk_R "LossyChannels" 359 "no such round" sa s := by
  have hg := flat_of_before _ hgv
  obtain ⟨a, c, cA, kA, q1, -⟩ := Cond.exactly_spec (args := #[Value.ref b]) (first := s) (o := none) (s := s) (idx := []) (t := .string "LossyChannels" 359) (cls := "java/lang/String") (hg _ (List.mem_of_getElem? (i := 463) (by decide +kernel)))
  exact ⟨a, vk_R.of (hts _ (List.mem_of_getElem? (i := 956) (by decide +kernel))) q1⟩
theorem ws_S21 {s : State} {b : Addr} (hts : ∀ w ∈ lw_tbl, w.before #[Value.ref b] s = true) (hgv : (Jvm.Cond.and given_1 narrow_1).before #[Value.ref b] s = true) : ∃ sa, vk_R "LossyChannels" 365 "no such firing" sa s := by
  have hg := flat_of_before _ hgv
  obtain ⟨a, c, cA, kA, q1, -⟩ := Cond.exactly_spec (args := #[Value.ref b]) (first := s) (o := none) (s := s) (idx := []) (t := .string "LossyChannels" 365) (cls := "java/lang/String") (hg _ (List.mem_of_getElem? (i := 572) (by decide +kernel)))
  exact ⟨a, vk_R.of (hts _ (List.mem_of_getElem? (i := 1039) (by decide +kernel))) q1⟩
theorem ws_S22 {s : State} {b : Addr} (hts : ∀ w ∈ lw_tbl, w.before #[Value.ref b] s = true) (hgv : (Jvm.Cond.and given_1 narrow_1).before #[Value.ref b] s = true) : ∃ sa, vk_R "LossyChannels" 80 "no such state or action" sa s := by
  have hg := flat_of_before _ hgv
  obtain ⟨a, c, cA, kA, q1, -⟩ := Cond.exactly_spec (args := #[Value.ref b]) (first := s) (o := none) (s := s) (idx := []) (t := .string "LossyChannels" 80) (cls := "java/lang/String") (hg _ (List.mem_of_getElem? (i := 114) (by decide +kernel)))
  exact ⟨a, vk_R.of (hts _ (List.mem_of_getElem? (i := 547) (by decide +kernel))) q1⟩
theorem ws_S23 {s : State} {b : Addr} (hts : ∀ w ∈ lw_tbl, w.before #[Value.ref b] s = true) (hgv : (Jvm.Cond.and given_1 narrow_1).before #[Value.ref b] s = true) : ∃ sa, vk_R "LossyChannels" 91 "no such channel or letter" sa s := by
  have hg := flat_of_before _ hgv
  obtain ⟨a, c, cA, kA, q1, -⟩ := Cond.exactly_spec (args := #[Value.ref b]) (first := s) (o := none) (s := s) (idx := []) (t := .string "LossyChannels" 91) (cls := "java/lang/String") (hg _ (List.mem_of_getElem? (i := 141) (by decide +kernel)))
  exact ⟨a, vk_R.of (hts _ (List.mem_of_getElem? (i := 580) (by decide +kernel))) q1⟩
theorem ws_S24 {s : State} {b : Addr} (hts : ∀ w ∈ lw_tbl, w.before #[Value.ref b] s = true) (hgv : (Jvm.Cond.and given_1 narrow_1).before #[Value.ref b] s = true) : ∃ sa, vk_R "LossyChannels" 99 "there are 10 transitions" sa s := by
  have hg := flat_of_before _ hgv
  obtain ⟨a, c, cA, kA, q1, -⟩ := Cond.exactly_spec (args := #[Value.ref b]) (first := s) (o := none) (s := s) (idx := []) (t := .string "LossyChannels" 99) (cls := "java/lang/String") (hg _ (List.mem_of_getElem? (i := 170) (by decide +kernel)))
  exact ⟨a, vk_R.of (hts _ (List.mem_of_getElem? (i := 590) (by decide +kernel))) q1⟩
theorem ws_S {s : State} {b : Addr} (hts : ∀ w ∈ lw_tbl, w.before #[Value.ref b] s = true) (hgv : (Jvm.Cond.and given_1 narrow_1).before #[Value.ref b] s = true) : ∀ q ∈ ev_strs, ∃ sa, vk_R q.1 q.2.1 q.2.2 sa s := List.forall_mem_cons.mpr ⟨ws_S0 hts hgv, List.forall_mem_cons.mpr ⟨ws_S1 hts hgv, List.forall_mem_cons.mpr ⟨ws_S2 hts hgv, List.forall_mem_cons.mpr ⟨ws_S3 hts hgv, List.forall_mem_cons.mpr ⟨ws_S4 hts hgv, List.forall_mem_cons.mpr ⟨ws_S5 hts hgv, List.forall_mem_cons.mpr ⟨ws_S6 hts hgv, List.forall_mem_cons.mpr ⟨ws_S7 hts hgv, List.forall_mem_cons.mpr ⟨ws_S8 hts hgv, List.forall_mem_cons.mpr ⟨ws_S9 hts hgv, List.forall_mem_cons.mpr ⟨ws_S10 hts hgv, List.forall_mem_cons.mpr ⟨ws_S11 hts hgv, List.forall_mem_cons.mpr ⟨ws_S12 hts hgv, List.forall_mem_cons.mpr ⟨ws_S13 hts hgv, List.forall_mem_cons.mpr ⟨ws_S14 hts hgv, List.forall_mem_cons.mpr ⟨ws_S15 hts hgv, List.forall_mem_cons.mpr ⟨ws_S16 hts hgv, List.forall_mem_cons.mpr ⟨ws_S17 hts hgv, List.forall_mem_cons.mpr ⟨ws_S18 hts hgv, List.forall_mem_cons.mpr ⟨ws_S19 hts hgv, List.forall_mem_cons.mpr ⟨ws_S20 hts hgv, List.forall_mem_cons.mpr ⟨ws_S21 hts hgv, List.forall_mem_cons.mpr ⟨ws_S22 hts hgv, List.forall_mem_cons.mpr ⟨ws_S23 hts hgv, List.forall_mem_cons.mpr ⟨ws_S24 hts hgv, fun _ h => nomatch h⟩⟩⟩⟩⟩⟩⟩⟩⟩⟩⟩⟩⟩⟩⟩⟩⟩⟩⟩⟩⟩⟩⟩⟩⟩
theorem ws_N {s : State} {b : Addr} (hts : ∀ w ∈ lw_tbl, w.before #[Value.ref b] s = true) (hgv : (Jvm.Cond.and given_1 narrow_1).before #[Value.ref b] s = true) : ∀ q ∈ ev_nc, va_Nc q.1 q.2 s := by
  have hg := flat_of_before _ hgv
  exact List.forall_mem_cons.mpr ⟨va_Nc.of (hg _ (List.mem_of_getElem? (i := 50) (by decide +kernel))), List.forall_mem_cons.mpr ⟨va_Nc.of (hg _ (List.mem_of_getElem? (i := 80) (by decide +kernel))), List.forall_mem_cons.mpr ⟨va_Nc.of (hg _ (List.mem_of_getElem? (i := 81) (by decide +kernel))), List.forall_mem_cons.mpr ⟨va_Nc.of (hg _ (List.mem_of_getElem? (i := 82) (by decide +kernel))), List.forall_mem_cons.mpr ⟨va_Nc.of (hg _ (List.mem_of_getElem? (i := 111) (by decide +kernel))), List.forall_mem_cons.mpr ⟨va_Nc.of (hg _ (List.mem_of_getElem? (i := 112) (by decide +kernel))), List.forall_mem_cons.mpr ⟨va_Nc.of (hg _ (List.mem_of_getElem? (i := 66) (by decide +kernel))), List.forall_mem_cons.mpr ⟨va_Nc.of (hg _ (List.mem_of_getElem? (i := 110) (by decide +kernel))), List.forall_mem_cons.mpr ⟨va_Nc.of (hg _ (List.mem_of_getElem? (i := 65) (by decide +kernel))), List.forall_mem_cons.mpr ⟨va_Nc.of (hg _ (List.mem_of_getElem? (i := 113) (by decide +kernel))), List.forall_mem_cons.mpr ⟨va_Nc.of (hg _ (List.mem_of_getElem? (i := 67) (by decide +kernel))), fun _ h => nomatch h⟩⟩⟩⟩⟩⟩⟩⟩⟩⟩⟩
theorem ws_X {s : State} {b : Addr} (hts : ∀ w ∈ lw_tbl, w.before #[Value.ref b] s = true) (hgv : (Jvm.Cond.and given_1 narrow_1).before #[Value.ref b] s = true) : ∃ ax : Nat → Nat, ax 20 = b ∧ ev_X ax (fun q => s.heap.size ≤ q) s s.heap := by
  have hg := flat_of_before _ hgv
  obtain ⟨t0, w0⟩ := ws_W0 hts hgv
  obtain ⟨t1, w1⟩ := ws_W1 hts hgv
  obtain ⟨t2, w2⟩ := ws_W2 hts hgv
  obtain ⟨t3, w3⟩ := ws_W3 hts hgv
  obtain ⟨a0, u0, v0⟩ := ws_V0 hts hgv
  obtain ⟨a1, u1, v1⟩ := ws_V1 hts hgv
  obtain ⟨a2, u2, v2⟩ := ws_V2 hts hgv
  obtain ⟨a3, u3, v3⟩ := ws_V3 hts hgv
  refine ⟨fun k => [t0, t1, t2, t3, a0, a1, a2, a3, u0, u1, u2, u3, 0, 0, 0, 0, 0, 0, 0, 0, b].getD k 0, rfl, fun k hk => ?_, fun k hk => ?_, va_Zof (hts _ (List.mem_of_getElem? (i := 1147) (by decide +kernel))) (hts _ (List.mem_of_getElem? (i := 88) (by decide +kernel))) (va_eqt (hg _ (List.mem_of_getElem? (i := 6) (by decide +kernel)))) ws_A, va_Zqof (hts _ (List.mem_of_getElem? (i := 1163) (by decide +kernel))) (hts _ (List.mem_of_getElem? (i := 90) (by decide +kernel))) (hg _ (List.mem_of_getElem? (i := 7) (by decide +kernel))) ws_A, vx_Zqof (hts _ (List.mem_of_getElem? (i := 531) (by decide +kernel))) (hts _ (List.mem_of_getElem? (i := 79) (by decide +kernel))) (hg _ (List.mem_of_getElem? (i := 4) (by decide +kernel))) ws_A, vx_Zqof (hts _ (List.mem_of_getElem? (i := 533) (by decide +kernel))) (hts _ (List.mem_of_getElem? (i := 79) (by decide +kernel))) (hg _ (List.mem_of_getElem? (i := 5) (by decide +kernel))) ws_A, ?_, ws_S hts hgv, fun w hw => ?_, ws_N hts hgv⟩
  · match k, hk with
    | 0, _ => exact w0
    | 1, _ => exact w1
    | 2, _ => exact w2
    | 3, _ => exact w3
  · match k, hk with
    | 0, _ => exact v0
    | 1, _ => exact v1
    | 2, _ => exact v2
    | 3, _ => exact v3
  · have h : (Cond.arrayOver (.object "LossyChannels$Configs")).before #[Value.ref b] s = true := (hts _ (List.mem_of_getElem? (i := 200) (by decide +kernel)))
    exact h
  · have h1 := (List.mem_filter.mp hw).2
    unfold ev_fc at h1
    rw [Bool.and_eq_true] at h1
    exact va_tabs h1.1 rfl (hts w (List.mem_filter.mp hw).1)
theorem ws_K {s : State} {args : Array Value} (hts : ∀ w ∈ ev_bw, w.before args s = true) (hov : va_AO "LossyChannels$Configs" s) : ∃ (D : va_G) (cA : Nat → Nat), va_K D vwCl (ev_tys cA) s := by
  have h : ∀ c : Nat, ∃ r : ClassId × (Nat → Nat), ∀ q, vwCl[c]? = some q → u_Kn s q.1 q.2.1 q.2.2 r.1 r.2 := by
    have h0 : ∀ c : Nat, ∃ (cC : ClassId) (iS : Nat → Nat), ∀ q, vwCl[c]? = some q → u_Kn s q.1 q.2.1 q.2.2 cC iS := by
      intro c
      by_cases hc : c < 11
      · match c, hc with
        | 0, _ => obtain ⟨x, y, k⟩ := u_known hts (ev_cls (ci := 0) rfl) (hts _ CI_RX0.1); exact ⟨x, y, fun q hq => by cases hq; exact k⟩
        | 1, _ => obtain ⟨x, y, k⟩ := u_known hts (ev_cls (ci := 1) rfl) (hts _ CI_RX1.1); exact ⟨x, y, fun q hq => by cases hq; exact k⟩
        | 2, _ => obtain ⟨x, y, k⟩ := u_known hts (ev_cls (ci := 2) rfl) (hts _ CI_RX2.1); exact ⟨x, y, fun q hq => by cases hq; exact k⟩
        | 3, _ => obtain ⟨x, y, k⟩ := u_known hts (ev_cls (ci := 3) rfl) (hts _ CI_RX3.1); exact ⟨x, y, fun q hq => by cases hq; exact k⟩
        | 4, _ => obtain ⟨x, y, k⟩ := u_known hts (ev_cls (ci := 4) rfl) (hts _ CI_RX4.1); exact ⟨x, y, fun q hq => by cases hq; exact k⟩
        | 5, _ => obtain ⟨x, y, k⟩ := u_known hts (ev_cls (ci := 5) rfl) (hts _ CI_RX5.1); exact ⟨x, y, fun q hq => by cases hq; exact k⟩
        | 6, _ => obtain ⟨x, y, k⟩ := u_known hts (ev_cls (ci := 6) rfl) (hts _ CI_RX6.1); exact ⟨x, y, fun q hq => by cases hq; exact k⟩
        | 7, _ => obtain ⟨x, y, k⟩ := u_known hts (ev_cls (ci := 7) rfl) (hts _ CI_RX7.1); exact ⟨x, y, fun q hq => by cases hq; exact k⟩
        | 8, _ => obtain ⟨x, y, k⟩ := u_known hts (ev_cls (ci := 8) rfl) (hts _ CI_RX8.1); exact ⟨x, y, fun q hq => by cases hq; exact k⟩
        | 9, _ => obtain ⟨x, y, k⟩ := u_known hts (ev_cls (ci := 9) rfl) (hts _ CI_RX10.1); exact ⟨x, y, fun q hq => by cases hq; exact k⟩
        | 10, _ => obtain ⟨x, y, k⟩ := u_known hts (ev_cls (ci := 10) rfl) (hts _ CI_RX11.1); exact ⟨x, y, fun q hq => by cases hq; exact k⟩
      · exact ⟨0, fun _ => 0, fun q hq => absurd (List.getElem?_eq_some_iff.mp hq).1 hc⟩
    intro c
    obtain ⟨x, y, k⟩ := h0 c
    exact ⟨(x, y), k⟩
  obtain ⟨c0, k0, p0, n0, h0, e0⟩ := Cond.arrayClass_spec (hts _ A_int)
  obtain ⟨c1, k1, p1, n1, h1, e1⟩ := Cond.arrayClass_spec (hts _ A_long)
  obtain ⟨c2, k2, p2, n2, h2, e2⟩ := Cond.arrayClass_spec (hts _ A_char)
  obtain ⟨p3, c3, k3, f3, n3, h3, e3, g3⟩ := Cond.arrayOver_spec hov
  refine ⟨(fun c => (Classical.choose (h c)).1, fun c => (Classical.choose (h c)).2), fun k => [c0, c1, c2, c3].getD k 0, fun c q hq => Classical.choose_spec (h c) q hq, fun k q hq => ?_⟩
  by_cases hk : k < 4
  · match k, hk with
    | 0, _ => cases hq; exact ⟨fun N z => ⟨(fun k h => by cases h), k0, h0, p0, e0⟩, n0⟩
    | 1, _ => cases hq; exact ⟨fun N z => ⟨(fun k h => by cases h), k1, h1, p1, e1⟩, n1⟩
    | 2, _ => cases hq; exact ⟨fun N z => ⟨(fun k h => by cases h), k2, h2, p2, e2⟩, n2⟩
    | 3, _ => cases hq; exact ⟨fun N z => ⟨(fun k h => by cases h), k3, h3, p3, e3⟩, k3, p3, h3, e3, f3, g3⟩
  · exact absurd (List.getElem?_eq_some_iff.mp hq).1 hk
