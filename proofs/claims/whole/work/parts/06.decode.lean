theorem d_La_law_445 : decode b_La_law 445 = .ok (.aload_n 2, 1) := by decide +kernel
theorem d_La_law_446 : decode b_La_law 446 = .ok (.aload_n 0, 1) := by decide +kernel
theorem d_La_law_447 : decode b_La_law 447 = .ok (.iload 4, 2) := by decide +kernel
theorem d_La_law_449 : decode b_La_law 449 = .ok (.iconst 1, 1) := by decide +kernel
theorem d_La_law_450 : decode b_La_law 450 = .ok (.iadd, 1) := by decide +kernel
theorem d_La_law_451 : decode b_La_law 451 = .ok (.iaload, 1) := by decide +kernel
theorem d_La_law_452 : decode b_La_law 452 = .ok (.aload_n 0, 1) := by decide +kernel
theorem d_La_law_453 : decode b_La_law 453 = .ok (.iload 4, 2) := by decide +kernel
theorem d_La_law_455 : decode b_La_law 455 = .ok (.iconst 2, 1) := by decide +kernel
theorem d_La_law_456 : decode b_La_law 456 = .ok (.iadd, 1) := by decide +kernel
theorem d_La_law_457 : decode b_La_law 457 = .ok (.iaload, 1) := by decide +kernel
theorem d_La_law_458 : decode b_La_law 458 = .ok (.invokevirtual 62, 3) := by decide +kernel
theorem d_La_law_461 : decode b_La_law 461 = .ok (.if_icmp .eq 417, 3) := by decide +kernel
theorem d_La_law_464 : decode b_La_law 464 = .ok (.iconst 0, 1) := by decide +kernel
theorem d_La_law_465 : decode b_La_law 465 = .ok (.ireturn, 1) := by decide +kernel
theorem d_La_law_466 : decode b_La_law 466 = .ok (.aload_n 1, 1) := by decide +kernel
theorem d_La_law_467 : decode b_La_law 467 = .ok (.aload_n 0, 1) := by decide +kernel
theorem d_La_law_468 : decode b_La_law 468 = .ok (.iload 4, 2) := by decide +kernel
theorem d_La_law_470 : decode b_La_law 470 = .ok (.iconst 1, 1) := by decide +kernel
theorem d_La_law_471 : decode b_La_law 471 = .ok (.iadd, 1) := by decide +kernel
theorem d_La_law_472 : decode b_La_law 472 = .ok (.iaload, 1) := by decide +kernel
theorem d_La_law_473 : decode b_La_law 473 = .ok (.invokevirtual 63, 3) := by decide +kernel
theorem d_La_law_476 : decode b_La_law 476 = .ok (.aload_n 2, 1) := by decide +kernel
theorem d_La_law_477 : decode b_La_law 477 = .ok (.aload_n 0, 1) := by decide +kernel
theorem d_La_law_478 : decode b_La_law 478 = .ok (.iload 4, 2) := by decide +kernel
theorem d_La_law_480 : decode b_La_law 480 = .ok (.iconst 1, 1) := by decide +kernel
theorem d_La_law_481 : decode b_La_law 481 = .ok (.iadd, 1) := by decide +kernel
theorem d_La_law_482 : decode b_La_law 482 = .ok (.iaload, 1) := by decide +kernel
theorem d_La_law_483 : decode b_La_law 483 = .ok (.invokevirtual 66, 3) := by decide +kernel
theorem d_La_law_486 : decode b_La_law 486 = .ok (.if_icmp .eq 392, 3) := by decide +kernel
theorem d_La_law_489 : decode b_La_law 489 = .ok (.iconst 0, 1) := by decide +kernel
theorem d_La_law_490 : decode b_La_law 490 = .ok (.ireturn, 1) := by decide +kernel
theorem d_La_law_491 : decode b_La_law 491 = .ok (.aload_n 1, 1) := by decide +kernel
theorem d_La_law_492 : decode b_La_law 492 = .ok (.aload_n 0, 1) := by decide +kernel
theorem d_La_law_493 : decode b_La_law 493 = .ok (.iload 4, 2) := by decide +kernel
theorem d_La_law_495 : decode b_La_law 495 = .ok (.iconst 1, 1) := by decide +kernel
theorem d_La_law_496 : decode b_La_law 496 = .ok (.iadd, 1) := by decide +kernel
theorem d_La_law_497 : decode b_La_law 497 = .ok (.iaload, 1) := by decide +kernel
theorem d_La_law_498 : decode b_La_law 498 = .ok (.invokevirtual 67, 3) := by decide +kernel
theorem d_La_law_501 : decode b_La_law 501 = .ok (.aload_n 2, 1) := by decide +kernel
theorem d_La_law_502 : decode b_La_law 502 = .ok (.aload_n 0, 1) := by decide +kernel
theorem d_La_law_503 : decode b_La_law 503 = .ok (.iload 4, 2) := by decide +kernel
theorem d_La_law_505 : decode b_La_law 505 = .ok (.iconst 1, 1) := by decide +kernel
theorem d_La_law_506 : decode b_La_law 506 = .ok (.iadd, 1) := by decide +kernel
theorem d_La_law_507 : decode b_La_law 507 = .ok (.iaload, 1) := by decide +kernel
theorem d_La_law_508 : decode b_La_law 508 = .ok (.invokevirtual 71, 3) := by decide +kernel
theorem d_La_law_511 : decode b_La_law 511 = .ok (.lcmp, 1) := by decide +kernel
theorem d_La_law_512 : decode b_La_law 512 = .ok (.ifCond .eq 366, 3) := by decide +kernel
theorem d_La_law_515 : decode b_La_law 515 = .ok (.iconst 0, 1) := by decide +kernel
theorem d_La_law_516 : decode b_La_law 516 = .ok (.ireturn, 1) := by decide +kernel
theorem d_La_law_517 : decode b_La_law 517 = .ok (.aload_n 1, 1) := by decide +kernel
theorem d_La_law_518 : decode b_La_law 518 = .ok (.aload_n 0, 1) := by decide +kernel
theorem d_La_law_519 : decode b_La_law 519 = .ok (.iload 4, 2) := by decide +kernel
theorem d_La_law_521 : decode b_La_law 521 = .ok (.iconst 1, 1) := by decide +kernel
theorem d_La_law_522 : decode b_La_law 522 = .ok (.iadd, 1) := by decide +kernel
theorem d_La_law_523 : decode b_La_law 523 = .ok (.iaload, 1) := by decide +kernel
theorem d_La_law_524 : decode b_La_law 524 = .ok (.invokevirtual 72, 3) := by decide +kernel
theorem d_La_law_527 : decode b_La_law 527 = .ok (.aload_n 2, 1) := by decide +kernel
theorem d_La_law_528 : decode b_La_law 528 = .ok (.aload_n 0, 1) := by decide +kernel
theorem d_La_law_529 : decode b_La_law 529 = .ok (.iload 4, 2) := by decide +kernel
theorem d_La_law_531 : decode b_La_law 531 = .ok (.iconst 1, 1) := by decide +kernel
theorem d_La_law_532 : decode b_La_law 532 = .ok (.iadd, 1) := by decide +kernel
theorem d_La_law_533 : decode b_La_law 533 = .ok (.iaload, 1) := by decide +kernel
theorem d_La_law_534 : decode b_La_law 534 = .ok (.invokevirtual 75, 3) := by decide +kernel
theorem d_La_law_537 : decode b_La_law 537 = .ok (.if_icmp .eq 341, 3) := by decide +kernel
theorem d_La_law_540 : decode b_La_law 540 = .ok (.iconst 0, 1) := by decide +kernel
theorem d_La_law_541 : decode b_La_law 541 = .ok (.ireturn, 1) := by decide +kernel
theorem d_La_law_542 : decode b_La_law 542 = .ok (.aload_n 1, 1) := by decide +kernel
theorem d_La_law_543 : decode b_La_law 543 = .ok (.aload_n 0, 1) := by decide +kernel
theorem d_La_law_544 : decode b_La_law 544 = .ok (.iload 4, 2) := by decide +kernel
theorem d_La_law_546 : decode b_La_law 546 = .ok (.iconst 1, 1) := by decide +kernel
theorem d_La_law_547 : decode b_La_law 547 = .ok (.iadd, 1) := by decide +kernel
theorem d_La_law_548 : decode b_La_law 548 = .ok (.iaload, 1) := by decide +kernel
theorem d_La_law_549 : decode b_La_law 549 = .ok (.aload_n 0, 1) := by decide +kernel
theorem d_La_law_550 : decode b_La_law 550 = .ok (.iload 4, 2) := by decide +kernel
theorem d_La_law_552 : decode b_La_law 552 = .ok (.iconst 2, 1) := by decide +kernel
theorem d_La_law_553 : decode b_La_law 553 = .ok (.iadd, 1) := by decide +kernel
theorem d_La_law_554 : decode b_La_law 554 = .ok (.iaload, 1) := by decide +kernel
theorem d_La_law_555 : decode b_La_law 555 = .ok (.invokevirtual 76, 3) := by decide +kernel
theorem d_La_law_558 : decode b_La_law 558 = .ok (.aload_n 2, 1) := by decide +kernel
theorem d_La_law_559 : decode b_La_law 559 = .ok (.aload_n 0, 1) := by decide +kernel
theorem d_La_law_560 : decode b_La_law 560 = .ok (.iload 4, 2) := by decide +kernel
theorem d_La_law_562 : decode b_La_law 562 = .ok (.iconst 1, 1) := by decide +kernel
theorem d_La_law_563 : decode b_La_law 563 = .ok (.iadd, 1) := by decide +kernel
theorem d_La_law_564 : decode b_La_law 564 = .ok (.iaload, 1) := by decide +kernel
theorem d_La_law_565 : decode b_La_law 565 = .ok (.aload_n 0, 1) := by decide +kernel
theorem d_La_law_566 : decode b_La_law 566 = .ok (.iload 4, 2) := by decide +kernel
theorem d_La_law_568 : decode b_La_law 568 = .ok (.iconst 2, 1) := by decide +kernel
theorem d_La_law_569 : decode b_La_law 569 = .ok (.iadd, 1) := by decide +kernel
theorem d_La_law_570 : decode b_La_law 570 = .ok (.iaload, 1) := by decide +kernel
theorem d_La_law_571 : decode b_La_law 571 = .ok (.invokevirtual 79, 3) := by decide +kernel
theorem d_La_law_574 : decode b_La_law 574 = .ok (.if_icmp .eq 304, 3) := by decide +kernel
theorem d_La_law_577 : decode b_La_law 577 = .ok (.iconst 0, 1) := by decide +kernel
theorem d_La_law_578 : decode b_La_law 578 = .ok (.ireturn, 1) := by decide +kernel
theorem d_La_law_579 : decode b_La_law 579 = .ok (.aload_n 1, 1) := by decide +kernel
theorem d_La_law_580 : decode b_La_law 580 = .ok (.aload_n 0, 1) := by decide +kernel
theorem d_La_law_581 : decode b_La_law 581 = .ok (.iload 4, 2) := by decide +kernel
theorem d_La_law_583 : decode b_La_law 583 = .ok (.iconst 1, 1) := by decide +kernel
theorem d_La_law_584 : decode b_La_law 584 = .ok (.iadd, 1) := by decide +kernel
theorem d_La_law_585 : decode b_La_law 585 = .ok (.iaload, 1) := by decide +kernel
theorem d_La_law_586 : decode b_La_law 586 = .ok (.invokevirtual 80, 3) := by decide +kernel
theorem d_La_law_589 : decode b_La_law 589 = .ok (.aload_n 2, 1) := by decide +kernel
theorem d_La_law_590 : decode b_La_law 590 = .ok (.aload_n 0, 1) := by decide +kernel
theorem d_La_law_591 : decode b_La_law 591 = .ok (.iload 4, 2) := by decide +kernel
theorem d_La_law_593 : decode b_La_law 593 = .ok (.iconst 1, 1) := by decide +kernel
theorem d_La_law_594 : decode b_La_law 594 = .ok (.iadd, 1) := by decide +kernel
theorem d_La_law_595 : decode b_La_law 595 = .ok (.iaload, 1) := by decide +kernel
theorem d_La_law_596 : decode b_La_law 596 = .ok (.invokevirtual 82, 3) := by decide +kernel
theorem d_La_law_599 : decode b_La_law 599 = .ok (.lcmp, 1) := by decide +kernel
theorem d_La_law_600 : decode b_La_law 600 = .ok (.ifCond .eq 278, 3) := by decide +kernel
theorem d_La_law_603 : decode b_La_law 603 = .ok (.iconst 0, 1) := by decide +kernel
theorem d_La_law_604 : decode b_La_law 604 = .ok (.ireturn, 1) := by decide +kernel
theorem d_La_law_605 : decode b_La_law 605 = .ok (.aload_n 1, 1) := by decide +kernel
theorem d_La_law_606 : decode b_La_law 606 = .ok (.aload_n 0, 1) := by decide +kernel
theorem d_La_law_607 : decode b_La_law 607 = .ok (.iload 4, 2) := by decide +kernel
theorem d_La_law_609 : decode b_La_law 609 = .ok (.iconst 1, 1) := by decide +kernel
theorem d_La_law_610 : decode b_La_law 610 = .ok (.iadd, 1) := by decide +kernel
theorem d_La_law_611 : decode b_La_law 611 = .ok (.iaload, 1) := by decide +kernel
theorem d_La_law_612 : decode b_La_law 612 = .ok (.aload_n 0, 1) := by decide +kernel
theorem d_La_law_613 : decode b_La_law 613 = .ok (.iload 4, 2) := by decide +kernel
theorem d_La_law_615 : decode b_La_law 615 = .ok (.iconst 2, 1) := by decide +kernel
theorem d_La_law_616 : decode b_La_law 616 = .ok (.iadd, 1) := by decide +kernel
theorem d_La_law_617 : decode b_La_law 617 = .ok (.iaload, 1) := by decide +kernel
theorem d_La_law_618 : decode b_La_law 618 = .ok (.invokevirtual 83, 3) := by decide +kernel
theorem d_La_law_621 : decode b_La_law 621 = .ok (.aload_n 2, 1) := by decide +kernel
theorem d_La_law_622 : decode b_La_law 622 = .ok (.aload_n 0, 1) := by decide +kernel
theorem d_La_law_623 : decode b_La_law 623 = .ok (.iload 4, 2) := by decide +kernel
theorem d_La_law_625 : decode b_La_law 625 = .ok (.iconst 1, 1) := by decide +kernel
theorem d_La_law_626 : decode b_La_law 626 = .ok (.iadd, 1) := by decide +kernel
theorem d_La_law_627 : decode b_La_law 627 = .ok (.iaload, 1) := by decide +kernel
theorem d_La_law_628 : decode b_La_law 628 = .ok (.aload_n 0, 1) := by decide +kernel
theorem d_La_law_629 : decode b_La_law 629 = .ok (.iload 4, 2) := by decide +kernel
theorem d_La_law_631 : decode b_La_law 631 = .ok (.iconst 2, 1) := by decide +kernel
theorem d_La_law_632 : decode b_La_law 632 = .ok (.iadd, 1) := by decide +kernel
theorem d_La_law_633 : decode b_La_law 633 = .ok (.iaload, 1) := by decide +kernel
theorem d_La_law_634 : decode b_La_law 634 = .ok (.invokevirtual 86, 3) := by decide +kernel
theorem d_La_law_637 : decode b_La_law 637 = .ok (.if_icmp .eq 241, 3) := by decide +kernel
theorem d_La_law_640 : decode b_La_law 640 = .ok (.iconst 0, 1) := by decide +kernel
theorem d_La_law_641 : decode b_La_law 641 = .ok (.ireturn, 1) := by decide +kernel
theorem d_La_law_642 : decode b_La_law 642 = .ok (.aload_n 1, 1) := by decide +kernel
theorem d_La_law_643 : decode b_La_law 643 = .ok (.aload_n 0, 1) := by decide +kernel
theorem d_La_law_644 : decode b_La_law 644 = .ok (.iload 4, 2) := by decide +kernel
theorem d_La_law_646 : decode b_La_law 646 = .ok (.iconst 1, 1) := by decide +kernel
theorem d_La_law_647 : decode b_La_law 647 = .ok (.iadd, 1) := by decide +kernel
theorem d_La_law_648 : decode b_La_law 648 = .ok (.iaload, 1) := by decide +kernel
theorem d_La_law_649 : decode b_La_law 649 = .ok (.aload_n 0, 1) := by decide +kernel
theorem d_La_law_650 : decode b_La_law 650 = .ok (.iload 4, 2) := by decide +kernel
theorem d_La_law_652 : decode b_La_law 652 = .ok (.iconst 2, 1) := by decide +kernel
theorem d_La_law_653 : decode b_La_law 653 = .ok (.iadd, 1) := by decide +kernel
theorem d_La_law_654 : decode b_La_law 654 = .ok (.iaload, 1) := by decide +kernel
theorem d_La_law_655 : decode b_La_law 655 = .ok (.invokevirtual 87, 3) := by decide +kernel
theorem d_La_law_658 : decode b_La_law 658 = .ok (.aload_n 2, 1) := by decide +kernel
theorem d_La_law_659 : decode b_La_law 659 = .ok (.aload_n 0, 1) := by decide +kernel
theorem d_La_law_660 : decode b_La_law 660 = .ok (.iload 4, 2) := by decide +kernel
theorem d_La_law_662 : decode b_La_law 662 = .ok (.iconst 1, 1) := by decide +kernel
theorem d_La_law_663 : decode b_La_law 663 = .ok (.iadd, 1) := by decide +kernel
theorem d_La_law_664 : decode b_La_law 664 = .ok (.iaload, 1) := by decide +kernel
theorem d_La_law_665 : decode b_La_law 665 = .ok (.aload_n 0, 1) := by decide +kernel
theorem d_La_law_666 : decode b_La_law 666 = .ok (.iload 4, 2) := by decide +kernel
theorem d_La_law_668 : decode b_La_law 668 = .ok (.iconst 2, 1) := by decide +kernel
theorem d_La_law_669 : decode b_La_law 669 = .ok (.iadd, 1) := by decide +kernel
theorem d_La_law_670 : decode b_La_law 670 = .ok (.iaload, 1) := by decide +kernel
theorem d_La_law_671 : decode b_La_law 671 = .ok (.invokevirtual 91, 3) := by decide +kernel
theorem d_La_law_674 : decode b_La_law 674 = .ok (.if_icmp .eq 204, 3) := by decide +kernel
theorem d_La_law_677 : decode b_La_law 677 = .ok (.iconst 0, 1) := by decide +kernel
theorem d_La_law_678 : decode b_La_law 678 = .ok (.ireturn, 1) := by decide +kernel
theorem d_La_law_679 : decode b_La_law 679 = .ok (.aload_n 1, 1) := by decide +kernel
theorem d_La_law_680 : decode b_La_law 680 = .ok (.aload_n 0, 1) := by decide +kernel
theorem d_La_law_681 : decode b_La_law 681 = .ok (.iload 4, 2) := by decide +kernel
theorem d_La_law_683 : decode b_La_law 683 = .ok (.iconst 1, 1) := by decide +kernel
theorem d_La_law_684 : decode b_La_law 684 = .ok (.iadd, 1) := by decide +kernel
theorem d_La_law_685 : decode b_La_law 685 = .ok (.iaload, 1) := by decide +kernel
theorem d_La_law_686 : decode b_La_law 686 = .ok (.aload_n 0, 1) := by decide +kernel
theorem d_La_law_687 : decode b_La_law 687 = .ok (.iload 4, 2) := by decide +kernel
theorem d_La_law_689 : decode b_La_law 689 = .ok (.iconst 2, 1) := by decide +kernel
theorem d_La_law_690 : decode b_La_law 690 = .ok (.iadd, 1) := by decide +kernel
theorem d_La_law_691 : decode b_La_law 691 = .ok (.iaload, 1) := by decide +kernel
theorem d_La_law_692 : decode b_La_law 692 = .ok (.i2l, 1) := by decide +kernel
theorem d_La_law_693 : decode b_La_law 693 = .ok (.bipush 32, 2) := by decide +kernel
theorem d_La_law_695 : decode b_La_law 695 = .ok (.lshl, 1) := by decide +kernel
theorem d_La_law_696 : decode b_La_law 696 = .ok (.aload_n 0, 1) := by decide +kernel
theorem d_La_law_697 : decode b_La_law 697 = .ok (.iload 4, 2) := by decide +kernel
theorem d_La_law_699 : decode b_La_law 699 = .ok (.iconst 3, 1) := by decide +kernel
theorem d_La_law_700 : decode b_La_law 700 = .ok (.iadd, 1) := by decide +kernel
theorem d_La_law_701 : decode b_La_law 701 = .ok (.iaload, 1) := by decide +kernel
theorem d_La_law_702 : decode b_La_law 702 = .ok (.i2l, 1) := by decide +kernel
theorem d_La_law_703 : decode b_La_law 703 = .ok (.ldc2_w 38, 3) := by decide +kernel
theorem d_La_law_706 : decode b_La_law 706 = .ok (.land, 1) := by decide +kernel
theorem d_La_law_707 : decode b_La_law 707 = .ok (.lor, 1) := by decide +kernel
theorem d_La_law_708 : decode b_La_law 708 = .ok (.aload_n 0, 1) := by decide +kernel
theorem d_La_law_709 : decode b_La_law 709 = .ok (.iload 4, 2) := by decide +kernel
theorem d_La_law_711 : decode b_La_law 711 = .ok (.iconst 4, 1) := by decide +kernel
theorem d_La_law_712 : decode b_La_law 712 = .ok (.iadd, 1) := by decide +kernel
theorem d_La_law_713 : decode b_La_law 713 = .ok (.iaload, 1) := by decide +kernel
theorem d_La_law_714 : decode b_La_law 714 = .ok (.i2l, 1) := by decide +kernel
theorem d_La_law_715 : decode b_La_law 715 = .ok (.bipush 32, 2) := by decide +kernel
theorem d_La_law_717 : decode b_La_law 717 = .ok (.lshl, 1) := by decide +kernel
theorem d_La_law_718 : decode b_La_law 718 = .ok (.aload_n 0, 1) := by decide +kernel
theorem d_La_law_719 : decode b_La_law 719 = .ok (.iload 4, 2) := by decide +kernel
theorem d_La_law_721 : decode b_La_law 721 = .ok (.iconst 5, 1) := by decide +kernel
theorem d_La_law_722 : decode b_La_law 722 = .ok (.iadd, 1) := by decide +kernel
theorem d_La_law_723 : decode b_La_law 723 = .ok (.iaload, 1) := by decide +kernel
theorem d_La_law_724 : decode b_La_law 724 = .ok (.i2l, 1) := by decide +kernel
theorem d_La_law_725 : decode b_La_law 725 = .ok (.ldc2_w 38, 3) := by decide +kernel
theorem d_La_law_728 : decode b_La_law 728 = .ok (.land, 1) := by decide +kernel
theorem d_La_law_729 : decode b_La_law 729 = .ok (.lor, 1) := by decide +kernel
theorem d_La_law_730 : decode b_La_law 730 = .ok (.aload_n 3, 1) := by decide +kernel
theorem d_La_law_731 : decode b_La_law 731 = .ok (.invokestatic 92, 3) := by decide +kernel
theorem d_La_law_734 : decode b_La_law 734 = .ok (.istore 5, 2) := by decide +kernel
theorem d_La_law_736 : decode b_La_law 736 = .ok (.aload_n 2, 1) := by decide +kernel
theorem d_La_law_737 : decode b_La_law 737 = .ok (.aload_n 0, 1) := by decide +kernel
theorem d_La_law_738 : decode b_La_law 738 = .ok (.iload 4, 2) := by decide +kernel
theorem d_La_law_740 : decode b_La_law 740 = .ok (.iconst 1, 1) := by decide +kernel
theorem d_La_law_741 : decode b_La_law 741 = .ok (.iadd, 1) := by decide +kernel
theorem d_La_law_742 : decode b_La_law 742 = .ok (.iaload, 1) := by decide +kernel
theorem d_La_law_743 : decode b_La_law 743 = .ok (.aload_n 0, 1) := by decide +kernel
theorem d_La_law_744 : decode b_La_law 744 = .ok (.iload 4, 2) := by decide +kernel
theorem d_La_law_746 : decode b_La_law 746 = .ok (.iconst 2, 1) := by decide +kernel
theorem d_La_law_747 : decode b_La_law 747 = .ok (.iadd, 1) := by decide +kernel
theorem d_La_law_748 : decode b_La_law 748 = .ok (.iaload, 1) := by decide +kernel
theorem d_La_law_749 : decode b_La_law 749 = .ok (.i2l, 1) := by decide +kernel
theorem d_La_law_750 : decode b_La_law 750 = .ok (.bipush 32, 2) := by decide +kernel
theorem d_La_law_752 : decode b_La_law 752 = .ok (.lshl, 1) := by decide +kernel
theorem d_La_law_753 : decode b_La_law 753 = .ok (.aload_n 0, 1) := by decide +kernel
theorem d_La_law_754 : decode b_La_law 754 = .ok (.iload 4, 2) := by decide +kernel
theorem d_La_law_756 : decode b_La_law 756 = .ok (.iconst 3, 1) := by decide +kernel
theorem d_La_law_757 : decode b_La_law 757 = .ok (.iadd, 1) := by decide +kernel
theorem d_La_law_758 : decode b_La_law 758 = .ok (.iaload, 1) := by decide +kernel
theorem d_La_law_759 : decode b_La_law 759 = .ok (.i2l, 1) := by decide +kernel
theorem d_La_law_760 : decode b_La_law 760 = .ok (.ldc2_w 38, 3) := by decide +kernel
theorem d_La_law_763 : decode b_La_law 763 = .ok (.land, 1) := by decide +kernel
theorem d_La_law_764 : decode b_La_law 764 = .ok (.lor, 1) := by decide +kernel
theorem d_La_law_765 : decode b_La_law 765 = .ok (.aload_n 0, 1) := by decide +kernel
theorem d_La_law_766 : decode b_La_law 766 = .ok (.iload 4, 2) := by decide +kernel
theorem d_La_law_768 : decode b_La_law 768 = .ok (.iconst 4, 1) := by decide +kernel
theorem d_La_law_769 : decode b_La_law 769 = .ok (.iadd, 1) := by decide +kernel
theorem d_La_law_770 : decode b_La_law 770 = .ok (.iaload, 1) := by decide +kernel
theorem d_La_law_771 : decode b_La_law 771 = .ok (.i2l, 1) := by decide +kernel
theorem d_La_law_772 : decode b_La_law 772 = .ok (.bipush 32, 2) := by decide +kernel
theorem d_La_law_774 : decode b_La_law 774 = .ok (.lshl, 1) := by decide +kernel
theorem d_La_law_775 : decode b_La_law 775 = .ok (.aload_n 0, 1) := by decide +kernel
theorem d_La_law_776 : decode b_La_law 776 = .ok (.iload 4, 2) := by decide +kernel
theorem d_La_law_778 : decode b_La_law 778 = .ok (.iconst 5, 1) := by decide +kernel
theorem d_La_law_779 : decode b_La_law 779 = .ok (.iadd, 1) := by decide +kernel
theorem d_La_law_780 : decode b_La_law 780 = .ok (.iaload, 1) := by decide +kernel
theorem d_La_law_781 : decode b_La_law 781 = .ok (.i2l, 1) := by decide +kernel
theorem d_La_law_782 : decode b_La_law 782 = .ok (.ldc2_w 38, 3) := by decide +kernel
theorem d_La_law_785 : decode b_La_law 785 = .ok (.land, 1) := by decide +kernel
theorem d_La_law_786 : decode b_La_law 786 = .ok (.lor, 1) := by decide +kernel
theorem d_La_law_787 : decode b_La_law 787 = .ok (.invokevirtual 95, 3) := by decide +kernel
theorem d_La_law_790 : decode b_La_law 790 = .ok (.lstore 6, 2) := by decide +kernel
theorem d_La_law_792 : decode b_La_law 792 = .ok (.aload_n 2, 1) := by decide +kernel
theorem d_La_law_793 : decode b_La_law 793 = .ok (.invokevirtual 96, 3) := by decide +kernel
theorem d_La_law_796 : decode b_La_law 796 = .ok (.iload 5, 2) := by decide +kernel
theorem d_La_law_798 : decode b_La_law 798 = .ok (.if_icmp .eq 5, 3) := by decide +kernel
theorem d_La_law_801 : decode b_La_law 801 = .ok (.iconst 0, 1) := by decide +kernel
theorem d_La_law_802 : decode b_La_law 802 = .ok (.ireturn, 1) := by decide +kernel
theorem d_La_law_803 : decode b_La_law 803 = .ok (.iload 5, 2) := by decide +kernel
theorem d_La_law_805 : decode b_La_law 805 = .ok (.ifCond .ne 14, 3) := by decide +kernel
theorem d_La_law_808 : decode b_La_law 808 = .ok (.aload_n 3, 1) := by decide +kernel
theorem d_La_law_809 : decode b_La_law 809 = .ok (.iconst 0, 1) := by decide +kernel
theorem d_La_law_810 : decode b_La_law 810 = .ok (.laload, 1) := by decide +kernel
theorem d_La_law_811 : decode b_La_law 811 = .ok (.lload 6, 2) := by decide +kernel
theorem d_La_law_813 : decode b_La_law 813 = .ok (.lcmp, 1) := by decide +kernel
theorem d_La_law_814 : decode b_La_law 814 = .ok (.ifCond .eq 5, 3) := by decide +kernel
theorem d_La_law_817 : decode b_La_law 817 = .ok (.iconst 0, 1) := by decide +kernel
theorem d_La_law_818 : decode b_La_law 818 = .ok (.ireturn, 1) := by decide +kernel
theorem d_La_law_819 : decode b_La_law 819 = .ok (.goto 59, 3) := by decide +kernel
theorem d_La_law_822 : decode b_La_law 822 = .ok (.aload_n 1, 1) := by decide +kernel
theorem d_La_law_823 : decode b_La_law 823 = .ok (.aload_n 0, 1) := by decide +kernel
theorem d_La_law_824 : decode b_La_law 824 = .ok (.iload 4, 2) := by decide +kernel
theorem d_La_law_826 : decode b_La_law 826 = .ok (.iconst 1, 1) := by decide +kernel
theorem d_La_law_827 : decode b_La_law 827 = .ok (.iadd, 1) := by decide +kernel
theorem d_La_law_828 : decode b_La_law 828 = .ok (.iaload, 1) := by decide +kernel
theorem d_La_law_829 : decode b_La_law 829 = .ok (.aload_n 3, 1) := by decide +kernel
theorem d_La_law_830 : decode b_La_law 830 = .ok (.invokestatic 100, 3) := by decide +kernel
theorem d_La_law_833 : decode b_La_law 833 = .ok (.istore 5, 2) := by decide +kernel
theorem d_La_law_835 : decode b_La_law 835 = .ok (.aload_n 2, 1) := by decide +kernel
theorem d_La_law_836 : decode b_La_law 836 = .ok (.aload_n 0, 1) := by decide +kernel
theorem d_La_law_837 : decode b_La_law 837 = .ok (.iload 4, 2) := by decide +kernel
theorem d_La_law_839 : decode b_La_law 839 = .ok (.iconst 1, 1) := by decide +kernel
theorem d_La_law_840 : decode b_La_law 840 = .ok (.iadd, 1) := by decide +kernel
theorem d_La_law_841 : decode b_La_law 841 = .ok (.iaload, 1) := by decide +kernel
theorem d_La_law_842 : decode b_La_law 842 = .ok (.invokevirtual 103, 3) := by decide +kernel
theorem d_La_law_845 : decode b_La_law 845 = .ok (.istore 6, 2) := by decide +kernel
theorem d_La_law_847 : decode b_La_law 847 = .ok (.aload_n 2, 1) := by decide +kernel
theorem d_La_law_848 : decode b_La_law 848 = .ok (.invokevirtual 96, 3) := by decide +kernel
theorem d_La_law_851 : decode b_La_law 851 = .ok (.iload 5, 2) := by decide +kernel
theorem d_La_law_853 : decode b_La_law 853 = .ok (.if_icmp .eq 5, 3) := by decide +kernel
theorem d_La_law_856 : decode b_La_law 856 = .ok (.iconst 0, 1) := by decide +kernel
theorem d_La_law_857 : decode b_La_law 857 = .ok (.ireturn, 1) := by decide +kernel
theorem d_La_law_858 : decode b_La_law 858 = .ok (.iload 5, 2) := by decide +kernel
theorem d_La_law_860 : decode b_La_law 860 = .ok (.ifCond .ne 15, 3) := by decide +kernel
theorem d_La_law_863 : decode b_La_law 863 = .ok (.aload_n 3, 1) := by decide +kernel
theorem d_La_law_864 : decode b_La_law 864 = .ok (.iconst 0, 1) := by decide +kernel
theorem d_La_law_865 : decode b_La_law 865 = .ok (.laload, 1) := by decide +kernel
theorem d_La_law_866 : decode b_La_law 866 = .ok (.iload 6, 2) := by decide +kernel
theorem d_La_law_868 : decode b_La_law 868 = .ok (.i2l, 1) := by decide +kernel
theorem d_La_law_869 : decode b_La_law 869 = .ok (.lcmp, 1) := by decide +kernel
theorem d_La_law_870 : decode b_La_law 870 = .ok (.ifCond .eq 5, 3) := by decide +kernel
theorem d_La_law_873 : decode b_La_law 873 = .ok (.iconst 0, 1) := by decide +kernel
theorem d_La_law_874 : decode b_La_law 874 = .ok (.ireturn, 1) := by decide +kernel
theorem d_La_law_875 : decode b_La_law 875 = .ok (.goto 3, 3) := by decide +kernel
theorem d_La_law_878 : decode b_La_law 878 = .ok (.iinc 4 6, 3) := by decide +kernel
theorem d_La_law_881 : decode b_La_law 881 = .ok (.goto (-848), 3) := by decide +kernel
theorem d_La_law_884 : decode b_La_law 884 = .ok (.iconst 1, 1) := by decide +kernel
theorem d_La_law_885 : decode b_La_law 885 = .ok (.ireturn, 1) := by decide +kernel
