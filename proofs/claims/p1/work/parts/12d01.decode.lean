theorem d_La_law_570 : decode code 570 = .ok (.iadd, 1) := by decide +kernel
theorem d_La_law_571 : decode code 571 = .ok (.iaload, 1) := by decide +kernel
theorem d_La_law_572 : decode code 572 = .ok (.aload_n 0, 1) := by decide +kernel
theorem d_La_law_573 : decode code 573 = .ok (.iload 4, 2) := by decide +kernel
theorem d_La_law_575 : decode code 575 = .ok (.iconst 2, 1) := by decide +kernel
theorem d_La_law_576 : decode code 576 = .ok (.iadd, 1) := by decide +kernel
theorem d_La_law_577 : decode code 577 = .ok (.iaload, 1) := by decide +kernel
theorem d_La_law_578 : decode code 578 = .ok (.invokevirtual 92, 3) := by decide +kernel
theorem d_La_law_581 : decode code 581 = .ok (.if_icmp .eq 5, 3) := by decide +kernel
theorem d_La_law_584 : decode code 584 = .ok (.iconst 0, 1) := by decide +kernel
theorem d_La_law_585 : decode code 585 = .ok (.ireturn, 1) := by decide +kernel
theorem d_La_law_586 : decode code 586 = .ok (.iinc 4 3, 3) := by decide +kernel
theorem d_La_law_589 : decode code 589 = .ok (.goto (-566), 3) := by decide +kernel
theorem d_La_law_592 : decode code 592 = .ok (.iconst 1, 1) := by decide +kernel
theorem d_La_law_593 : decode code 593 = .ok (.ireturn, 1) := by decide +kernel
