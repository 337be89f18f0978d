section MR
variable {E : EE} {mi mj : MI} {k bc bs pc : Nat} {L : List (Option AV)} {S : List AV} {G : HG} {d : HD} {Q : PQ}
theorem A_iadd_ok {x y : Int} (hd : decode mi.2.1 pc = .ok (.iadd, 1)) (h1 : -2147483648 ≤ x + y) (h2 : x + y ≤ 2147483647) (K : AW E mi k bc bs (pc + 1) L (kI (x + y) :: S) G d Q) : AW E mi k bc bs pc L (kI y :: kI x :: S) G d Q := A_iadd hd (by rw [kw_id h1 h2]; exact K)
theorem A_isub_ok {x y : Int} (hd : decode mi.2.1 pc = .ok (.isub, 1)) (h1 : -2147483648 ≤ x - y) (h2 : x - y ≤ 2147483647) (K : AW E mi k bc bs (pc + 1) L (kI (x - y) :: S) G d Q) : AW E mi k bc bs pc L (kI y :: kI x :: S) G d Q := A_isub hd (by rw [kw_id h1 h2]; exact K)
theorem A_imul_ok {x y : Int} (hd : decode mi.2.1 pc = .ok (.imul, 1)) (h1 : -2147483648 ≤ x * y) (h2 : x * y ≤ 2147483647) (K : AW E mi k bc bs (pc + 1) L (kI (x * y) :: S) G d Q) : AW E mi k bc bs pc L (kI y :: kI x :: S) G d Q := A_imul hd (by rw [kw_id h1 h2]; exact K)
theorem A_ineg_ok {x : Int} (hd : decode mi.2.1 pc = .ok (.ineg, 1)) (h1 : -2147483648 ≤ -x) (h2 : -x ≤ 2147483647) (K : AW E mi k bc bs (pc + 1) L (kI (-x) :: S) G d Q) : AW E mi k bc bs pc L (kI x :: S) G d Q := A_ineg hd (by rw [kw_id h1 h2]; exact K)
theorem A_iinc_ok {i : Nat} {n x : Int} (hd : decode mi.2.1 pc = .ok (.iinc i n, 3)) (hl : L[i]? = some (some (kI x))) (hj : kNoJ L i = true) (h1 : -2147483648 ≤ x + n) (h2 : x + n ≤ 2147483647) (K : AW E mi k bc bs (pc + 3) (L.set i (some (kI (x + n)))) S G d Q) : AW E mi k bc bs pc L S G d Q := A_iinc hd hl hj (by rw [kw_id h1 h2]; exact K)
theorem AM.more {bc' bs' : Nat} {av : List AV} (h : AM E mi k bc bs av G d Q) (e1 : bc = bc') (e2 : bs = bs') : AM E mi k bc' bs' av G d Q := by subst e1; subst e2; exact h
theorem up_ind {P : Int → Prop} {N : Int} (hN : P N) (hs : ∀ j, j < N → P (j + 1) → P j) {j : Int} (hj : j ≤ N) : P j := by
  have key : ∀ (n : Nat) (j : Int), j ≤ N → (N - j).toNat = n → P j := by
    intro n
    induction n with
    | zero => intro j h1 h2; have : j = N := by omega
              rw [this]; exact hN
    | succ n ih => intro j h1 h2; exact hs j (by omega) (ih (j + 1) (by omega) (by omega))
  exact key _ j hj rfl
theorem up_ind0 {P : Int → Prop} {lo N : Int} (hN : P N) (hs : ∀ j, lo ≤ j → j < N → P (j + 1) → P j) {j : Int} (h0 : lo ≤ j) (hj : j ≤ N) : P j := by
  have key : ∀ (n : Nat) (j : Int), lo ≤ j → j ≤ N → (N - j).toNat = n → P j := by
    intro n
    induction n with
    | zero => intro j h0 h1 h2; have : j = N := by omega
              rw [this]; exact hN
    | succ n ih => intro j h0 h1 h2; exact hs j h0 (by omega) (ih (j + 1) (by omega) (by omega) (by omega))
  exact key _ j h0 hj rfl
theorem dn_ind {P : Int → Prop} {lo : Int} (hN : P lo) (hs : ∀ j, lo < j → P (j - 1) → P j) {j : Int} (hj : lo ≤ j) : P j := by
  have key : ∀ (n : Nat) (j : Int), lo ≤ j → (j - lo).toNat = n → P j := by
    intro n
    induction n with
    | zero => intro j h1 h2; have : j = lo := by omega
              rw [this]; exact hN
    | succ n ih => intro j h1 h2; exact hs j (by omega) (ih (j - 1) (by omega) (by omega))
  exact key _ j hj rfl

theorem A_inv0 {idx ci b : Nat} {T : u_T} (hd : decode mi.2.1 pc = .ok (.invokevirtual idx, 3)) (ml : kMV mi.1.cls idx 0 mj) (hc : kCl ci mj.1.cls T) (hcat : (S.map kCat).sum ≤ 8) (ho : isO G b ci) (K : AM E mj k 0 0 [kR b] G d (fun r G' d' => AW E mi (k + 1) bc bs (pc + 3) L (kPush r S) G' d' Q)) : AW E mi (k + 1) bc bs pc L (kR b :: S) G d Q := A_inv [] hd ml hc rfl rfl hcat (Nat.zero_le _) (Nat.zero_le _) ho K
theorem A_inv1 {idx ci b : Nat} {T : u_T} {u : AV} (hd : decode mi.2.1 pc = .ok (.invokevirtual idx, 3)) (ml : kMV mi.1.cls idx 1 mj) (hc : kCl ci mj.1.cls T) (hcat : (S.map kCat).sum ≤ 8) (ho : isO G b ci) (K : AM E mj k 0 0 [kR b, u] G d (fun r G' d' => AW E mi (k + 1) bc bs (pc + 3) L (kPush r S) G' d' Q)) : AW E mi (k + 1) bc bs pc L (u :: kR b :: S) G d Q := A_inv [u] hd ml hc rfl rfl hcat (Nat.zero_le _) (Nat.zero_le _) ho K
theorem A_ins1 {idx : Nat} {u : AV} (hd : decode mi.2.1 pc = .ok (.invokestatic idx, 3)) (ml : kMS mi.1.cls idx 1 mj) (hcat : (S.map kCat).sum ≤ 8) (K : AM E mj k 0 0 [u] G d (fun r G' d' => AW E mi (k + 1) bc bs (pc + 3) L (kPush r S) G' d' Q)) : AW E mi (k + 1) bc bs pc L (u :: S) G d Q := A_ins [u] hd ml rfl rfl hcat (Nat.zero_le _) (Nat.zero_le _) K
theorem A_inv2 {idx ci b : Nat} {T : u_T} {u v : AV} (hd : decode mi.2.1 pc = .ok (.invokevirtual idx, 3)) (ml : kMV mi.1.cls idx 2 mj) (hc : kCl ci mj.1.cls T) (hcat : (S.map kCat).sum ≤ 8) (ho : isO G b ci) (K : AM E mj k 0 0 [kR b, u, v] G d (fun r G' d' => AW E mi (k + 1) bc bs (pc + 3) L (kPush r S) G' d' Q)) : AW E mi (k + 1) bc bs pc L (v :: u :: kR b :: S) G d Q := A_inv [u, v] hd ml hc rfl rfl hcat (Nat.zero_le _) (Nat.zero_le _) ho K
theorem A_ins2 {idx : Nat} {u v : AV} (hd : decode mi.2.1 pc = .ok (.invokestatic idx, 3)) (ml : kMS mi.1.cls idx 2 mj) (hcat : (S.map kCat).sum ≤ 8) (K : AM E mj k 0 0 [u, v] G d (fun r G' d' => AW E mi (k + 1) bc bs (pc + 3) L (kPush r S) G' d' Q)) : AW E mi (k + 1) bc bs pc L (v :: u :: S) G d Q := A_ins [u, v] hd ml rfl rfl hcat (Nat.zero_le _) (Nat.zero_le _) K
theorem A_inv3 {idx ci b : Nat} {T : u_T} {u v w : AV} (hd : decode mi.2.1 pc = .ok (.invokevirtual idx, 3)) (ml : kMV mi.1.cls idx 3 mj) (hc : kCl ci mj.1.cls T) (hcat : (S.map kCat).sum ≤ 8) (ho : isO G b ci) (K : AM E mj k 0 0 [kR b, u, v, w] G d (fun r G' d' => AW E mi (k + 1) bc bs (pc + 3) L (kPush r S) G' d' Q)) : AW E mi (k + 1) bc bs pc L (w :: v :: u :: kR b :: S) G d Q := A_inv [u, v, w] hd ml hc rfl rfl hcat (Nat.zero_le _) (Nat.zero_le _) ho K
theorem A_ins3 {idx : Nat} {u v w : AV} (hd : decode mi.2.1 pc = .ok (.invokestatic idx, 3)) (ml : kMS mi.1.cls idx 3 mj) (hcat : (S.map kCat).sum ≤ 8) (K : AM E mj k 0 0 [u, v, w] G d (fun r G' d' => AW E mi (k + 1) bc bs (pc + 3) L (kPush r S) G' d' Q)) : AW E mi (k + 1) bc bs pc L (w :: v :: u :: S) G d Q := A_ins [u, v, w] hd ml rfl rfl hcat (Nat.zero_le _) (Nat.zero_le _) K
theorem A_inv4 {idx ci b : Nat} {T : u_T} {u v w x : AV} (hd : decode mi.2.1 pc = .ok (.invokevirtual idx, 3)) (ml : kMV mi.1.cls idx 4 mj) (hc : kCl ci mj.1.cls T) (hcat : (S.map kCat).sum ≤ 8) (ho : isO G b ci) (K : AM E mj k 0 0 [kR b, u, v, w, x] G d (fun r G' d' => AW E mi (k + 1) bc bs (pc + 3) L (kPush r S) G' d' Q)) : AW E mi (k + 1) bc bs pc L (x :: w :: v :: u :: kR b :: S) G d Q := A_inv [u, v, w, x] hd ml hc rfl rfl hcat (Nat.zero_le _) (Nat.zero_le _) ho K
theorem A_ins4 {idx : Nat} {u v w x : AV} (hd : decode mi.2.1 pc = .ok (.invokestatic idx, 3)) (ml : kMS mi.1.cls idx 4 mj) (hcat : (S.map kCat).sum ≤ 8) (K : AM E mj k 0 0 [u, v, w, x] G d (fun r G' d' => AW E mi (k + 1) bc bs (pc + 3) L (kPush r S) G' d' Q)) : AW E mi (k + 1) bc bs pc L (x :: w :: v :: u :: S) G d Q := A_ins [u, v, w, x] hd ml rfl rfl hcat (Nat.zero_le _) (Nat.zero_le _) K
theorem A_inv5 {idx ci b : Nat} {T : u_T} {u v w x y : AV} (hd : decode mi.2.1 pc = .ok (.invokevirtual idx, 3)) (ml : kMV mi.1.cls idx 5 mj) (hc : kCl ci mj.1.cls T) (hcat : (S.map kCat).sum ≤ 8) (ho : isO G b ci) (K : AM E mj k 0 0 [kR b, u, v, w, x, y] G d (fun r G' d' => AW E mi (k + 1) bc bs (pc + 3) L (kPush r S) G' d' Q)) : AW E mi (k + 1) bc bs pc L (y :: x :: w :: v :: u :: kR b :: S) G d Q := A_inv [u, v, w, x, y] hd ml hc rfl rfl hcat (Nat.zero_le _) (Nat.zero_le _) ho K
theorem A_ins5 {idx : Nat} {u v w x y : AV} (hd : decode mi.2.1 pc = .ok (.invokestatic idx, 3)) (ml : kMS mi.1.cls idx 5 mj) (hcat : (S.map kCat).sum ≤ 8) (K : AM E mj k 0 0 [u, v, w, x, y] G d (fun r G' d' => AW E mi (k + 1) bc bs (pc + 3) L (kPush r S) G' d' Q)) : AW E mi (k + 1) bc bs pc L (y :: x :: w :: v :: u :: S) G d Q := A_ins [u, v, w, x, y] hd ml rfl rfl hcat (Nat.zero_le _) (Nat.zero_le _) K
theorem A_inv6 {idx ci b : Nat} {T : u_T} {u v w x y z : AV} (hd : decode mi.2.1 pc = .ok (.invokevirtual idx, 3)) (ml : kMV mi.1.cls idx 6 mj) (hc : kCl ci mj.1.cls T) (hcat : (S.map kCat).sum ≤ 8) (ho : isO G b ci) (K : AM E mj k 0 0 [kR b, u, v, w, x, y, z] G d (fun r G' d' => AW E mi (k + 1) bc bs (pc + 3) L (kPush r S) G' d' Q)) : AW E mi (k + 1) bc bs pc L (z :: y :: x :: w :: v :: u :: kR b :: S) G d Q := A_inv [u, v, w, x, y, z] hd ml hc rfl rfl hcat (Nat.zero_le _) (Nat.zero_le _) ho K
end MR
