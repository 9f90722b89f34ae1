theorem dL_518 : decode code 518 = .ok (.iadd, 1) := by decide +kernel
theorem dL_519 : decode code 519 = .ok (.iaload, 1) := by decide +kernel
theorem dL_520 : decode code 520 = .ok (.invokevirtual 66, 3) := by decide +kernel
theorem dL_523 : decode code 523 = .ok (.aload_n 2, 1) := by decide +kernel
theorem dL_524 : decode code 524 = .ok (.aload_n 0, 1) := by decide +kernel
theorem dL_525 : decode code 525 = .ok (.iload_n 3, 1) := by decide +kernel
theorem dL_526 : decode code 526 = .ok (.iconst 1, 1) := by decide +kernel
theorem dL_527 : decode code 527 = .ok (.iadd, 1) := by decide +kernel
theorem dL_528 : decode code 528 = .ok (.iaload, 1) := by decide +kernel
theorem dL_529 : decode code 529 = .ok (.invokevirtual 69, 3) := by decide +kernel
theorem dL_532 : decode code 532 = .ok (.if_icmp .eq 371, 3) := by decide +kernel
theorem dL_535 : decode code 535 = .ok (.iconst 0, 1) := by decide +kernel
theorem dL_536 : decode code 536 = .ok (.ireturn, 1) := by decide +kernel
theorem dL_537 : decode code 537 = .ok (.aload_n 1, 1) := by decide +kernel
theorem dL_538 : decode code 538 = .ok (.aload_n 0, 1) := by decide +kernel
theorem dL_539 : decode code 539 = .ok (.iload_n 3, 1) := by decide +kernel
theorem dL_540 : decode code 540 = .ok (.iconst 1, 1) := by decide +kernel
theorem dL_541 : decode code 541 = .ok (.iadd, 1) := by decide +kernel
theorem dL_542 : decode code 542 = .ok (.iaload, 1) := by decide +kernel
theorem dL_543 : decode code 543 = .ok (.invokevirtual 70, 3) := by decide +kernel
theorem dL_546 : decode code 546 = .ok (.aload_n 2, 1) := by decide +kernel
theorem dL_547 : decode code 547 = .ok (.aload_n 0, 1) := by decide +kernel
theorem dL_548 : decode code 548 = .ok (.iload_n 3, 1) := by decide +kernel
theorem dL_549 : decode code 549 = .ok (.iconst 1, 1) := by decide +kernel
theorem dL_550 : decode code 550 = .ok (.iadd, 1) := by decide +kernel
theorem dL_551 : decode code 551 = .ok (.iaload, 1) := by decide +kernel
theorem dL_552 : decode code 552 = .ok (.invokevirtual 73, 3) := by decide +kernel
theorem dL_555 : decode code 555 = .ok (.if_icmp .eq 348, 3) := by decide +kernel
theorem dL_558 : decode code 558 = .ok (.iconst 0, 1) := by decide +kernel
theorem dL_559 : decode code 559 = .ok (.ireturn, 1) := by decide +kernel
theorem dL_560 : decode code 560 = .ok (.aload_n 1, 1) := by decide +kernel
theorem dL_561 : decode code 561 = .ok (.aload_n 0, 1) := by decide +kernel
theorem dL_562 : decode code 562 = .ok (.iload_n 3, 1) := by decide +kernel
theorem dL_563 : decode code 563 = .ok (.iconst 1, 1) := by decide +kernel
theorem dL_564 : decode code 564 = .ok (.iadd, 1) := by decide +kernel
theorem dL_565 : decode code 565 = .ok (.iaload, 1) := by decide +kernel
theorem dL_566 : decode code 566 = .ok (.aload_n 0, 1) := by decide +kernel
theorem dL_567 : decode code 567 = .ok (.iload_n 3, 1) := by decide +kernel
theorem dL_568 : decode code 568 = .ok (.iconst 2, 1) := by decide +kernel
theorem dL_569 : decode code 569 = .ok (.iadd, 1) := by decide +kernel
theorem dL_570 : decode code 570 = .ok (.iaload, 1) := by decide +kernel
theorem dL_571 : decode code 571 = .ok (.aload_n 0, 1) := by decide +kernel
theorem dL_572 : decode code 572 = .ok (.iload_n 3, 1) := by decide +kernel
theorem dL_573 : decode code 573 = .ok (.iconst 3, 1) := by decide +kernel
theorem dL_574 : decode code 574 = .ok (.iadd, 1) := by decide +kernel
theorem dL_575 : decode code 575 = .ok (.iaload, 1) := by decide +kernel
theorem dL_576 : decode code 576 = .ok (.invokevirtual 74, 3) := by decide +kernel
theorem dL_579 : decode code 579 = .ok (.aload_n 2, 1) := by decide +kernel
theorem dL_580 : decode code 580 = .ok (.aload_n 0, 1) := by decide +kernel
theorem dL_581 : decode code 581 = .ok (.iload_n 3, 1) := by decide +kernel
theorem dL_582 : decode code 582 = .ok (.iconst 1, 1) := by decide +kernel
theorem dL_583 : decode code 583 = .ok (.iadd, 1) := by decide +kernel
theorem dL_584 : decode code 584 = .ok (.iaload, 1) := by decide +kernel
theorem dL_585 : decode code 585 = .ok (.aload_n 0, 1) := by decide +kernel
theorem dL_586 : decode code 586 = .ok (.iload_n 3, 1) := by decide +kernel
theorem dL_587 : decode code 587 = .ok (.iconst 2, 1) := by decide +kernel
theorem dL_588 : decode code 588 = .ok (.iadd, 1) := by decide +kernel
theorem dL_589 : decode code 589 = .ok (.iaload, 1) := by decide +kernel
theorem dL_590 : decode code 590 = .ok (.aload_n 0, 1) := by decide +kernel
theorem dL_591 : decode code 591 = .ok (.iload_n 3, 1) := by decide +kernel
theorem dL_592 : decode code 592 = .ok (.iconst 3, 1) := by decide +kernel
theorem dL_593 : decode code 593 = .ok (.iadd, 1) := by decide +kernel
theorem dL_594 : decode code 594 = .ok (.iaload, 1) := by decide +kernel
theorem dL_595 : decode code 595 = .ok (.invokevirtual 77, 3) := by decide +kernel
theorem dL_598 : decode code 598 = .ok (.if_icmp .eq 305, 3) := by decide +kernel
theorem dL_601 : decode code 601 = .ok (.iconst 0, 1) := by decide +kernel
theorem dL_602 : decode code 602 = .ok (.ireturn, 1) := by decide +kernel
theorem dL_603 : decode code 603 = .ok (.aload_n 1, 1) := by decide +kernel
theorem dL_604 : decode code 604 = .ok (.aload_n 0, 1) := by decide +kernel
theorem dL_605 : decode code 605 = .ok (.iload_n 3, 1) := by decide +kernel
theorem dL_606 : decode code 606 = .ok (.iconst 1, 1) := by decide +kernel
theorem dL_607 : decode code 607 = .ok (.iadd, 1) := by decide +kernel
theorem dL_608 : decode code 608 = .ok (.iaload, 1) := by decide +kernel
theorem dL_609 : decode code 609 = .ok (.aload_n 0, 1) := by decide +kernel
theorem dL_610 : decode code 610 = .ok (.iload_n 3, 1) := by decide +kernel
theorem dL_611 : decode code 611 = .ok (.iconst 2, 1) := by decide +kernel
theorem dL_612 : decode code 612 = .ok (.iadd, 1) := by decide +kernel
theorem dL_613 : decode code 613 = .ok (.iaload, 1) := by decide +kernel
theorem dL_614 : decode code 614 = .ok (.aload_n 0, 1) := by decide +kernel
theorem dL_615 : decode code 615 = .ok (.iload_n 3, 1) := by decide +kernel
theorem dL_616 : decode code 616 = .ok (.iconst 3, 1) := by decide +kernel
theorem dL_617 : decode code 617 = .ok (.iadd, 1) := by decide +kernel
theorem dL_618 : decode code 618 = .ok (.iaload, 1) := by decide +kernel
theorem dL_619 : decode code 619 = .ok (.invokevirtual 78, 3) := by decide +kernel
theorem dL_622 : decode code 622 = .ok (.aload_n 2, 1) := by decide +kernel
theorem dL_623 : decode code 623 = .ok (.aload_n 0, 1) := by decide +kernel
theorem dL_624 : decode code 624 = .ok (.iload_n 3, 1) := by decide +kernel
theorem dL_625 : decode code 625 = .ok (.iconst 1, 1) := by decide +kernel
theorem dL_626 : decode code 626 = .ok (.iadd, 1) := by decide +kernel
theorem dL_627 : decode code 627 = .ok (.iaload, 1) := by decide +kernel
theorem dL_628 : decode code 628 = .ok (.aload_n 0, 1) := by decide +kernel
theorem dL_629 : decode code 629 = .ok (.iload_n 3, 1) := by decide +kernel
theorem dL_630 : decode code 630 = .ok (.iconst 2, 1) := by decide +kernel
theorem dL_631 : decode code 631 = .ok (.iadd, 1) := by decide +kernel
theorem dL_632 : decode code 632 = .ok (.iaload, 1) := by decide +kernel
theorem dL_633 : decode code 633 = .ok (.aload_n 0, 1) := by decide +kernel
theorem dL_634 : decode code 634 = .ok (.iload_n 3, 1) := by decide +kernel
theorem dL_635 : decode code 635 = .ok (.iconst 3, 1) := by decide +kernel
theorem dL_636 : decode code 636 = .ok (.iadd, 1) := by decide +kernel
theorem dL_637 : decode code 637 = .ok (.iaload, 1) := by decide +kernel
theorem dL_638 : decode code 638 = .ok (.invokevirtual 81, 3) := by decide +kernel
theorem dL_641 : decode code 641 = .ok (.if_icmp .eq 262, 3) := by decide +kernel
theorem dL_644 : decode code 644 = .ok (.iconst 0, 1) := by decide +kernel
theorem dL_645 : decode code 645 = .ok (.ireturn, 1) := by decide +kernel
theorem dL_646 : decode code 646 = .ok (.aload_n 1, 1) := by decide +kernel
theorem dL_647 : decode code 647 = .ok (.aload_n 0, 1) := by decide +kernel
theorem dL_648 : decode code 648 = .ok (.iload_n 3, 1) := by decide +kernel
theorem dL_649 : decode code 649 = .ok (.iconst 1, 1) := by decide +kernel
theorem dL_650 : decode code 650 = .ok (.iadd, 1) := by decide +kernel
theorem dL_651 : decode code 651 = .ok (.iaload, 1) := by decide +kernel
theorem dL_652 : decode code 652 = .ok (.aload_n 0, 1) := by decide +kernel
theorem dL_653 : decode code 653 = .ok (.iload_n 3, 1) := by decide +kernel
theorem dL_654 : decode code 654 = .ok (.iconst 2, 1) := by decide +kernel
theorem dL_655 : decode code 655 = .ok (.iadd, 1) := by decide +kernel
theorem dL_656 : decode code 656 = .ok (.iaload, 1) := by decide +kernel
theorem dL_657 : decode code 657 = .ok (.invokevirtual 82, 3) := by decide +kernel
theorem dL_660 : decode code 660 = .ok (.aload_n 2, 1) := by decide +kernel
theorem dL_661 : decode code 661 = .ok (.aload_n 0, 1) := by decide +kernel
theorem dL_662 : decode code 662 = .ok (.iload_n 3, 1) := by decide +kernel
theorem dL_663 : decode code 663 = .ok (.iconst 1, 1) := by decide +kernel
theorem dL_664 : decode code 664 = .ok (.iadd, 1) := by decide +kernel
theorem dL_665 : decode code 665 = .ok (.iaload, 1) := by decide +kernel
theorem dL_666 : decode code 666 = .ok (.aload_n 0, 1) := by decide +kernel
theorem dL_667 : decode code 667 = .ok (.iload_n 3, 1) := by decide +kernel
theorem dL_668 : decode code 668 = .ok (.iconst 2, 1) := by decide +kernel
theorem dL_669 : decode code 669 = .ok (.iadd, 1) := by decide +kernel
theorem dL_670 : decode code 670 = .ok (.iaload, 1) := by decide +kernel
theorem dL_671 : decode code 671 = .ok (.invokevirtual 85, 3) := by decide +kernel
theorem dL_674 : decode code 674 = .ok (.if_icmp .eq 229, 3) := by decide +kernel
theorem dL_677 : decode code 677 = .ok (.iconst 0, 1) := by decide +kernel
theorem dL_678 : decode code 678 = .ok (.ireturn, 1) := by decide +kernel
theorem dL_679 : decode code 679 = .ok (.aload_n 1, 1) := by decide +kernel
theorem dL_680 : decode code 680 = .ok (.aload_n 0, 1) := by decide +kernel
theorem dL_681 : decode code 681 = .ok (.iload_n 3, 1) := by decide +kernel
theorem dL_682 : decode code 682 = .ok (.iconst 1, 1) := by decide +kernel
theorem dL_683 : decode code 683 = .ok (.iadd, 1) := by decide +kernel
theorem dL_684 : decode code 684 = .ok (.iaload, 1) := by decide +kernel
theorem dL_685 : decode code 685 = .ok (.aload_n 0, 1) := by decide +kernel
theorem dL_686 : decode code 686 = .ok (.iload_n 3, 1) := by decide +kernel
theorem dL_687 : decode code 687 = .ok (.iconst 2, 1) := by decide +kernel
theorem dL_688 : decode code 688 = .ok (.iadd, 1) := by decide +kernel
theorem dL_689 : decode code 689 = .ok (.iaload, 1) := by decide +kernel
theorem dL_690 : decode code 690 = .ok (.invokevirtual 86, 3) := by decide +kernel
theorem dL_693 : decode code 693 = .ok (.aload_n 2, 1) := by decide +kernel
theorem dL_694 : decode code 694 = .ok (.aload_n 0, 1) := by decide +kernel
theorem dL_695 : decode code 695 = .ok (.iload_n 3, 1) := by decide +kernel
theorem dL_696 : decode code 696 = .ok (.iconst 1, 1) := by decide +kernel
theorem dL_697 : decode code 697 = .ok (.iadd, 1) := by decide +kernel
theorem dL_698 : decode code 698 = .ok (.iaload, 1) := by decide +kernel
theorem dL_699 : decode code 699 = .ok (.aload_n 0, 1) := by decide +kernel
theorem dL_700 : decode code 700 = .ok (.iload_n 3, 1) := by decide +kernel
theorem dL_701 : decode code 701 = .ok (.iconst 2, 1) := by decide +kernel
theorem dL_702 : decode code 702 = .ok (.iadd, 1) := by decide +kernel
theorem dL_703 : decode code 703 = .ok (.iaload, 1) := by decide +kernel
theorem dL_704 : decode code 704 = .ok (.invokevirtual 89, 3) := by decide +kernel
theorem dL_707 : decode code 707 = .ok (.if_icmp .eq 196, 3) := by decide +kernel
theorem dL_710 : decode code 710 = .ok (.iconst 0, 1) := by decide +kernel
theorem dL_711 : decode code 711 = .ok (.ireturn, 1) := by decide +kernel
theorem dL_712 : decode code 712 = .ok (.aload_n 1, 1) := by decide +kernel
theorem dL_713 : decode code 713 = .ok (.aload_n 0, 1) := by decide +kernel
