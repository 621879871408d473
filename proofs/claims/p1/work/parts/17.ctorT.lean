theorem t_X4_initB : okP (f_X4_initB iSet (fun _ => 0) (fun _ => 0) (fun _ => 0) (fun _ => 0)) (fun u => u = (iFar7, iCur, iDep, iFars)) := sorry
theorem t_X1_initB : okP (f_X1_initB (fun _ => 0)) (fun u => u = iKnown) := sorry
theorem t_X7_initB : okP (f_X7_initB (fun _ => 0) (fun _ => 0) (fun _ => 0) (fun _ => 0) (fun _ => 0)) (fun u => u = (jSet, jFar7, iCur, iDep, jLan)) := sorry
